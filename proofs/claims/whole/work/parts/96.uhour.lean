/-! an hour of the schedule, and all of it -/
def hr_ok (M P : Nat) (B : Nat → Nat → Int32) (p m : Nat) : Bool := decide (p < P ∧ m < M ∧ ¬ B 114 (6 * p + m) = -1)
def hr_g (hd : Nat → Nat) (B : Nat → Nat → Int32) (p m : Nat) : Nat := 4096 * hd p + (B 115 (6 * p + m)).toNatClampNeg
theorem hr_pr {M P : Nat} {hd : Nat → Nat} {am : Nat → Nat → Int32} {I A B : Nat → Nat → Int32} (h : sc_st M hd am I A B P 0) {p m : Nat} (hp : p < P) (hm : m < M) : (hr_ok M P B p m = false ∧ B 114 (6 * p + m) = -1 ∧ A 47 (6 * p + m) = 0) ∨ (hr_ok M P B p m = true ∧ ¬ B 114 (6 * p + m) = -1 ∧ ∃ b s : Nat, b < 6 ∧ 10 ≤ s ∧ s ≤ 306 ∧ B 114 (6 * p + m) = nI b ∧ B 115 (6 * p + m) = nI s ∧ B 116 (6 * p + m) = am p m ∧ A 47 (6 * p + m) = nI (4096 * hd p + s) ∧ A 48 (6 * p + m) = nI b ∧ A 49 (6 * p + m) = nI s ∧ hr_g hd B p m = 4096 * hd p + s) := by
  rcases h.1 p m hm (Or.inl hp) with ⟨h1, h2⟩ | ⟨b, s, h1, h2, h3, h4, h5, h6, h7, h8, h9⟩
  · exact Or.inl ⟨decide_eq_false (fun z => z.2.2 h1), h1, h2⟩
  · have nb : ¬ B 114 (6 * p + m) = -1 := by rw [h4]; exact sv_n1 (by omega)
    refine Or.inr ⟨decide_eq_true ⟨hp, hm, nb⟩, nb, b, s, h1, h2, h3, h4, h5, h6, h7, h8, h9, ?_⟩
    unfold hr_g
    rw [h5, nI_clamp (by omega)]
theorem hr_sq {M P : Nat} {hd : Nat → Nat} {am : Nat → Nat → Int32} {I A B : Nat → Nat → Int32} (h : sc_st M hd am I A B P 0) (M6 : M ≤ 6) (P10 : P ≤ 10) (hH : ∀ p, hd p ≤ 10000) : ∃ K ask, sq_in I A M P K ask (hr_ok M P B) (hr_g hd B) hd := by
  have hpr := fun p m hp hm => hr_pr h (p := p) (m := m) hp hm
  obtain ⟨h1, h2, F, a, ⟨g1, g2, g3⟩, g4, g5⟩ := h
  have ha : a = false := by
    cases a with
    | false => rfl
    | true =>
      obtain ⟨m, hm, -⟩ := g4.mp rfl
      exact absurd hm (Nat.not_lt_zero _)
  subst ha
  have g1' : I 46 5 = nI (sc_cn F P) := g1
  have ask : ∀ j, j < sc_cn F P → ∃ q, q < P ∧ F q = true ∧ sc_cn F q = j ∧ A 51 j = nI q := fun j hj => by
    obtain ⟨q, q1, q2, q3⟩ := sc_cn_at P j hj
    exact ⟨q, q1, q2, q3, by rw [← q3]; exact g2 q q1 q2⟩
  have ask2 : ∀ j, j < sc_cn F P → ∃ q, q < P ∧ F q = true ∧ sc_cn F q = j ∧ A 51 j = nI q ∧ (A 51 j).toNatClampNeg = q := fun j hj => by
    obtain ⟨q, q1, q2, q3, q4⟩ := ask j hj
    exact ⟨q, q1, q2, q3, q4, by rw [q4]; exact nI_clamp (by omega)⟩
  refine ⟨sc_cn F P, fun j => (A 51 j).toNatClampNeg, g1', sc_cn_le F P, P10, M6, fun j hj => ?_, fun i j hij hj => ?_, fun p hp m hm => ?_, fun p hp na m hm => ?_, fun p m ho => ?_, hH, fun p m ho => ?_⟩
  · obtain ⟨q, q1, q2, q3, q4, q5⟩ := ask2 j hj
    show A 51 j = nI (A 51 j).toNatClampNeg ∧ (A 51 j).toNatClampNeg < P
    rw [q5]; exact ⟨q4, q1⟩
  · obtain ⟨q, q1, q2, q3, q4, q5⟩ := ask2 j hj
    obtain ⟨r, r1, r2, r3, r4, r5⟩ := ask2 i (by omega)
    show (A 51 i).toNatClampNeg < (A 51 j).toNatClampNeg
    rw [q5, r5]
    refine Nat.lt_of_not_le (fun w => ?_)
    have := sc_cn_mono (F := F) w
    omega
  · rcases hpr p m hp hm with ⟨w1, w2, w3⟩ | ⟨w1, w2, b, s, y1, y2, y3, y4, y5, y6, y7, y8, y9, y10⟩
    · rw [w1, w3, if_neg (by decide)]
    · rw [w1, if_pos rfl, y7, y10]
  · rcases hpr p m hp hm with ⟨w1, w2, w3⟩ | ⟨w1, w2, -⟩
    · exact w1
    · have hF : F p = true := (g5 p hp).mpr ⟨m, hm, w2⟩
      exfalso
      have lt := sc_cn_lt hp hF
      obtain ⟨q, q1, q2, q3, q4, q5⟩ := ask2 (sc_cn F p) lt
      have := g2 p hp hF
      rw [q4] at this
      have : q = p := (nI_eq (by omega) (by omega)).mp this
      exact na (sc_cn F p) lt (q5.trans this)
  · have hb := of_decide_eq_true ho
    rcases hpr p m hb.1 hb.2.1 with ⟨w1, -⟩ | ⟨w1, w2, b, s, y1, y2, y3, y4, y5, y6, y7, y8, y9, y10⟩
    · rw [w1] at ho; exact absurd ho (by decide)
    · exact ⟨s, y3, y10⟩
  · have hb := of_decide_eq_true ho
    rcases hpr p m hb.1 hb.2.1 with ⟨w1, -⟩ | ⟨w1, w2, b, s, y1, y2, y3, y4, y5, y6, y7, y8, y9, y10⟩
    · rw [w1] at ho; exact absurd ho (by decide)
    · rw [y10]; omega
theorem hr_lz {M P : Nat} {hd : Nat → Nat} {am : Nat → Nat → Int32} {I A I2 B : Nat → Nat → Int32} (h : sc_st M hd am I A B P 0) (M6 : M ≤ 6) (P10 : P ≤ 10) (hH : ∀ p, hd p ≤ 10000) (e43 : I2 68 43 = nI P) (e40 : I2 68 40 = nI M) (hl : ∀ p, p < P → ∃ l, l < 8 ∧ B 94 p = nI l ∧ B 91 l = nI (hd p)) : lz_in I2 B M P (hr_ok M P B) (hr_g hd B) hd := by
  refine ⟨e43, e40, P10, M6, fun p hp m hm => ?_, hl, fun p m ho => ?_, hH⟩
  · rcases hr_pr h hp hm with ⟨w1, w2, w3⟩ | ⟨w1, w2, b, s, y1, y2, y3, y4, y5, y6, y7, y8, y9, y10⟩
    · exact Or.inl ⟨w1, w2⟩
    · exact Or.inr ⟨w1, w2, s, y3, y10, y5⟩
  · have hb := of_decide_eq_true ho
    rcases hr_pr h hb.1 hb.2.1 with ⟨w1, -⟩ | ⟨w1, w2, b, s, y1, y2, y3, y4, y5, y6, y7, y8, y9, y10⟩
    · rw [w1] at ho; exact absurd ho (by decide)
    · exact ⟨s, y3, y10⟩
/-- a slot on both sides -/
def hr_slot (A B : Nat → Nat → Int32) (x : Nat) : Prop := A 54 x = B 109 x ∧ (B 109 x = -1 ∧ A 55 x = -1 ∧ A 56 x = -1 ∧ A 57 x = 0 ∨ ¬ B 109 x = -1 ∧ A 55 x = B 110 x ∧ A 56 x = B 111 x ∧ A 57 x = B 112 x)
/-- what stands when the hours below h are made -/
def hr_in (P h : Nat) (A B : Nat → Nat → Int32) : Prop :=
  (∀ k, k < h → A 59 k = B 113 k ∧ ∀ p, p < P → hr_slot A B (10 * k + p)) ∧
  (∀ k, h ≤ k → k < 24 → A 59 k = 0 ∧ (∀ q, q < 10 → A 54 (10 * k + q) = -1 ∧ A 55 (10 * k + q) = -1 ∧ A 56 (10 * k + q) = -1 ∧ A 57 (10 * k + q) = 0) ∧ ∀ m, m < 6 → A 58 (6 * k + m) = -1) ∧
  ∀ i, i < 6 → B 117 i = if h = 0 then -1 else A 58 (6 * (h - 1) + i)
set_option maxHeartbeats 4000000 in
theorem hr_hour37 {n : Nat} {I A I2 B I0 A0 Ir Br : Nat → Nat → Int32} {J J2 J0 : Nat → Nat → Int64} {t t2 t0 : Bool × Bool} {N m M P d h : Nat} {v3 : Int32} (hn : 500 ≤ n) (M6 : M ≤ 6) (P10 : P ≤ 10) (hdd : d < 3600) (h24 : h < 24) (hctx : sc_ctx 37 n I0 A0 J0 t0 N m I A I2 B) (h9 : I 9 2 = nI M) (h40 : I2 68 40 = nI M) (h12 : I 12 3 = nI P) (h43 : I2 68 43 = nI P) (hI : hr_in P h A B) :
    ∃ Io Ao As Ae Ri Rb Rl, Io = pI_X11_offerAll_0_tTx n I A J (true, t.2) (nI d) (nI h) (nI N) ∧ Ao = pA_X11_offerAll_0_tTx n I A J (true, t.2) (nI d) (nI h) (nI N) ∧ As = pA_X3_solve_46 n Io Ao J (true, t.2) (nI M) ∧ Ae = pA_X11_settle_0 n Io As J (true, t.2) (nI h) ∧ Ri = qIw53_X12_schedule_68 n Ir Br J2 t2 (nI d) (nI N) I2 B v3 (nI h) ∧ Rb = qAw53_X12_schedule_68 n Ir Br J2 t2 (nI d) (nI N) I2 B v3 (nI h) ∧ Rl = pA_X12_lays_68 n Ri Rb J2 t2 (nI h) ∧
      pb_X11_offerAll_0_tTx n I A J (true, t.2) (nI d) (nI h) (nI N) ∧ pb_X3_solve_46 n Io Ao J (true, t.2) (nI M) ∧ pb_X11_settle_0 n Io As J (true, t.2) (nI h) ∧ lb_X12_schedule_68_53 n Ir Br J2 t2 (nI d) (nI N) I2 B v3 (nI h) n I2 B 0 ∧ pb_X12_lays_68 n Ri Rb J2 t2 (nI h) ∧
      sc_ctx 37 n I0 A0 J0 t0 N m Io Ae Ri Rl ∧ Io 9 2 = nI M ∧ Ri 68 40 = nI M ∧ Io 12 3 = nI P ∧ Ri 68 43 = nI P ∧ hr_in P (h + 1) Ae Rl ∧ Ae 59 h = Rl 113 h ∧ Io 53 = I 53 := by
  refine ⟨_, _, _, _, _, _, _, rfl, rfl, rfl, rfl, rfl, rfl, rfl, ?_⟩
  obtain ⟨H1, H2, H3⟩ := id hI
  obtain ⟨⟨l1, l2, l3, l4, l5, l6, l7⟩, -⟩ := id hctx
  have z0 : nI 0 = 0 := nI_0
  -- the renewed pairing
  have F47 := fl_47 (n := n) (I := I) (A := A) (J := J) (t := (true, t.2)) (x := 0) (by omega)
  have F50 := fl_50 (n := n) (I := I) (A := pA_J7_fill_53178_47 n I A J (true, t.2) 0) (J := J) (t := (true, t.2)) (x := -1) (by omega)
  have rA : ∀ c, c ≠ 47 → c ≠ 50 → pA_X3_renew_46 n I A J (true, t.2) c = A c := fun c q1 q2 => fr_pA_X3_renew_46 (by simp [q1, q2])
  have r47 : ∀ x, x < 60 → pA_X3_renew_46 n I A J (true, t.2) 47 x = 0 := fun x hx => by
    unfold pA_X3_renew_46
    rw [fr_pA_J7_fill_53178_50 (by decide)]
    exact F47.2 x hx
  have r50 : ∀ x, x < 10 → pA_X3_renew_46 n I A J (true, t.2) 50 x = -1 := fun x hx => F50.2 x hx
  have rI : pI_X3_renew_46 n I A J (true, t.2) = cw_u I 46 5 0 := rfl
  have kI0 : ∀ c k, c ≠ 46 → pI_X3_renew_46 n I A J (true, t.2) c k = I c k := fun c k hc => by rw [rI, cw_u_c _ _ hc]
  -- what the lands of the programmes hear
  obtain ⟨hd, hhd⟩ : ∃ hd : Nat → Nat, hd = fun p => (A 4 (A 13 p).toNatClampNeg).toNatClampNeg := ⟨_, rfl⟩
  have hland : ∀ p, p < 10 → ∃ l, l < 8 ∧ A 13 p = nI l ∧ A 4 l = nI (hd p) ∧ hd p ≤ 10000 := fun p hp => by
    obtain ⟨-, -, -, w4⟩ := l4.2 p hp
    obtain ⟨l, hl, el⟩ := vp_in_of w4 (by decide)
    obtain ⟨-, -, -, -, -, w6⟩ := l1.2 l hl
    obtain ⟨k, hk, ek⟩ := vp_in_of w6 (by decide)
    have : hd p = k := by rw [hhd]; show (A 4 (A 13 p).toNatClampNeg).toNatClampNeg = k; rw [el, nI_clamp (by omega), ek, nI_clamp (by omega)]
    exact ⟨l, hl, el, by rw [this]; exact ek, by omega⟩
  obtain ⟨hd2, hhd2⟩ : ∃ hd2 : Nat → Nat, hd2 = fun p => if p < 10 then hd p else 0 := ⟨_, rfl⟩
  have hd2e : ∀ p, p < 10 → hd2 p = hd p := fun p hp => by rw [hhd2]; exact if_pos hp
  have hd2b : ∀ p, hd2 p ≤ 10000 := fun p => by
    by_cases w : p < 10
    · rw [hd2e p w]
      obtain ⟨-, -, -, -, y⟩ := hland p w
      exact y
    · rw [hhd2]
      show (if p < 10 then hd p else 0) ≤ 10000
      rw [if_neg w]; omega
  have hl : ∀ p, p < 10 → ∃ l, l < 8 ∧ pA_X3_renew_46 n I A J (true, t.2) 13 p = nI l ∧ pA_X3_renew_46 n I A J (true, t.2) 4 l = nI (hd2 p) := fun p hp => by
    obtain ⟨l, w1, w2, w3, -⟩ := hland p hp
    rw [rA 13 (by decide) (by decide), rA 4 (by decide) (by decide), hd2e p hp]
    exact ⟨l, w1, w2, w3⟩
  have hw0 : sc_wo 37 n I0 A0 J0 t0 N m (pA_X3_renew_46 n I A J (true, t.2)) (fun i => B 117 i) (pI_X3_renew_46 n I A J (true, t.2)) (pA_X3_renew_46 n I A J (true, t.2)) I2 B := ⟨sc_keep hctx (by omega) (fun c k q1 _ => kI0 c k q1) (fun c hc => rA c (by omega) (by omega)) (fun _ _ => rfl) (fun _ _ => rfl), fun _ _ => rfl, rfl, fun _ _ => rfl⟩
  have hS0 : sc_st M hd2 (fun q i => px_X9_aimTo_5_1 n I (pA_X3_renew_46 n I A J (true, t.2)) J (true, t.2) (pA_X3_renew_46 n I A J (true, t.2) 10 i) (pA_X3_renew_46 n I A J (true, t.2) 13 q)) (pI_X3_renew_46 n I A J (true, t.2)) (pA_X3_renew_46 n I A J (true, t.2)) B 0 0 := by
    refine ⟨fun q k hk hq => absurd hq (by omega), fun q k hk hq hq10 => r47 _ (by omega), fun _ => false, false, ⟨by rw [rI, cw_u_s]; rfl, fun q hq => absurd hq (by omega), fun z => absurd z (by decide)⟩, ⟨fun z => absurd z (by decide), fun ⟨k, hk, _⟩ => absurd hk (Nat.not_lt_zero _)⟩, fun q hq => absurd hq (by omega)⟩
  obtain ⟨a1, a2, a3, a4⟩ := sc_all37 (n := n) (Ic := I) (Ac := A) (Ir := Ir) (Br := Br) (I43 := I2) (A43 := B) (Ib := I) (J := J) (J2 := J2) (t := (true, t.2)) (t2 := t2) (v3 := v3) (d := d) (h := h) hn M6 P10 hdd h24 hl (fun i hi => by rw [rA 58 (by decide) (by decide)]; exact H3 i hi) P 0 n n (pI_X3_renew_46 n I A J (true, t.2)) (pA_X3_renew_46 n I A J (true, t.2)) I2 B (by omega) (by omega) (by omega) hw0 (by rw [kI0 9 2 (by decide)]; exact h9) h40 (by rw [kI0 12 3 (by decide)]; exact h12) h43 hS0
  rw [z0] at a1 a2 a3 a4
  -- names for the worlds
  obtain ⟨Io, hIo⟩ : ∃ Io, Io = pI_X11_offerAll_0_tTx n I A J (true, t.2) (nI d) (nI h) (nI N) := ⟨_, rfl⟩
  obtain ⟨Ao, hAo⟩ : ∃ Ao, Ao = pA_X11_offerAll_0_tTx n I A J (true, t.2) (nI d) (nI h) (nI N) := ⟨_, rfl⟩
  obtain ⟨Ri, hRi⟩ : ∃ Ri, Ri = qIw53_X12_schedule_68 n Ir Br J2 t2 (nI d) (nI N) I2 B v3 (nI h) := ⟨_, rfl⟩
  obtain ⟨Rb, hRb⟩ : ∃ Rb, Rb = qAw53_X12_schedule_68 n Ir Br J2 t2 (nI d) (nI N) I2 B v3 (nI h) := ⟨_, rfl⟩
  have a3' : sc_wo 37 n I0 A0 J0 t0 N m (pA_X3_renew_46 n I A J (true, t.2)) (fun i => B 117 i) Io Ao Ri Rb := by rw [hIo, hAo, hRi, hRb]; exact a3
  have a4' : sc_st M hd2 (fun q i => px_X9_aimTo_5_1 n I (pA_X3_renew_46 n I A J (true, t.2)) J (true, t.2) (pA_X3_renew_46 n I A J (true, t.2) 10 i) (pA_X3_renew_46 n I A J (true, t.2) 13 q)) Io Ao Rb P 0 := by rw [hIo, hAo, hRb]; exact a4
  have pbo : pb_X11_offerAll_0_tTx n I A J (true, t.2) (nI d) (nI h) (nI N) := ⟨⟨F47.1, F50.1⟩, a1⟩
  rw [← hIo, ← hAo, ← hRi, ← hRb]
  have kIo : ∀ c k, c ≠ 46 → Io c k = I c k := fun c k hc => by rw [hIo]; exact fr_pI_X11_offerAll_0_tTx (by simp [hc])
  have kAo : ∀ c, c ≠ 45 → c ≠ 47 → c ≠ 48 → c ≠ 49 → c ≠ 50 → c ≠ 51 → c ≠ 44 → Ao c = A c := fun c q1 q2 q3 q4 q5 q6 q7 => by rw [hAo]; exact fr_pA_X11_offerAll_0_tTx (by simp [q1, q2, q3, q4, q5, q6, q7])
  have kRi : ∀ k, k < 59 → Ri 68 k = I2 68 k := fun k hk => by rw [hRi]; exact fr_qIw53_X12_schedule_68 (by simp; omega)
  have kRb : ∀ c, (c < 107 ∨ 109 ≤ c ∧ c ≤ 113 ∨ c = 117) → Rb c = B c := fun c hc => by rw [hRb]; exact fr_qAw53_X12_schedule_68 (by simp; omega)
  have o50 : ∀ p, p < P → Ao 50 p = -1 := fun p hp => by
    have : Ao 50 = pA_X3_renew_46 n I A J (true, t.2) 50 := by
      rw [hAo]
      unfold pA_X11_offerAll_0_tTx qAw10_X11_offerAll_0_tTx
      exact fr_lp_X11_offerAll_0_tTx_10_c1 (by decide) _ _ _ _
    rw [this]; exact r50 p (by omega)
  obtain ⟨K, ask, Q⟩ := hr_sq a4' M6 P10 hd2b
  obtain ⟨s1, s2⟩ := sq_solve (n := n) (J := J) (t := (true, t.2)) Q (by omega) o50
  obtain ⟨As, hAs⟩ : ∃ As, As = pA_X3_solve_46 n Io Ao J (true, t.2) (nI M) := ⟨_, rfl⟩
  rw [← hAs] at s2 ⊢
  have kAs : ∀ c, c ≠ 50 → c ≠ 52 → As c = Ao c := fun c q1 q2 => by rw [hAs]; exact fr_pA_X3_solve_46 (by simp [q1, q2])
  have kAs2 : ∀ c, (c < 45 ∨ 53 ≤ c) → c ≠ 44 → As c = A c := fun c hc q => by rw [kAs c (by omega) (by omega)]; exact kAo c (by omega) (by omega) (by omega) (by omega) (by omega) (by omega) q
  have eR43 : Ri 68 43 = nI P := by rw [kRi 43 (by omega)]; exact h43
  have eR40 : Ri 68 40 = nI M := by rw [kRi 40 (by omega)]; exact h40
  have eI12 : Io 12 3 = nI P := by rw [kIo 12 3 (by decide)]; exact h12
  have eI9 : Io 9 2 = nI M := by rw [kIo 9 2 (by decide)]; exact h9
  have hlR : ∀ p, p < P → ∃ l, l < 8 ∧ Rb 94 p = nI l ∧ Rb 91 l = nI (hd2 p) := fun p hp => by
    obtain ⟨l, w1, w2, w3, -⟩ := hland p (by omega)
    obtain ⟨y1, -, -, -⟩ := l4.2 p (by omega)
    obtain ⟨-, -, y3, -⟩ := l1.2 l w1
    rw [kRb 94 (by omega), kRb 91 (by omega), ← y1, hd2e p (by omega)]
    exact ⟨l, w1, w2, by rw [← y3]; exact w3⟩
  have LZ := hr_lz a4' M6 P10 hd2b eR43 eR40 hlR
  obtain ⟨z1, z2, z3⟩ := lz_lays (n := n) (J := J2) (t := t2) (hr := h) (by omega) LZ h24
  obtain ⟨Rl, hRl⟩ : ∃ Rl, Rl = pA_X12_lays_68 n Ri Rb J2 t2 (nI h) := ⟨_, rfl⟩
  rw [← hRl] at z2 z3 ⊢
  have kRl : ∀ c, c < 107 → Rl c = B c := fun c hc => by
    rw [hRl, fr_pA_X12_lays_68 (by simp; omega)]; exact kRb c (by omega)
  -- settling
  obtain ⟨am, ham⟩ : ∃ am : Nat → Nat → Int32, am = fun q i => px_X9_aimTo_5_1 n I (pA_X3_renew_46 n I A J (true, t.2)) J (true, t.2) (pA_X3_renew_46 n I A J (true, t.2) 10 i) (pA_X3_renew_46 n I A J (true, t.2) 13 q) := ⟨_, rfl⟩
  rw [← ham] at a4'
  have hctxo := a3'.1
  have hctxs : sc_ctx 37 n I0 A0 J0 t0 N m Io As Ri Rb := sc_keep hctxo (by omega) (fun _ _ _ _ => rfl) (fun c hc => kAs c (by omega) (by omega)) (fun _ _ => rfl) (fun _ _ => rfl)
  obtain ⟨⟨k1, k2, k3, -⟩, -⟩ := id hctxs
  obtain ⟨e1, e2⟩ := se_loop (n := n) (M := M) (P := P) (hr := h) (I := Io) (A := As) (Ac := As) (J := J) (t := (true, t.2)) (ok := hr_ok M P Rb) (g := hr_g hd2 Rb) (hd := hd2) (am := am) (by omega) M6 P10 h24 eI12 s2
    (fun p hp => by
      obtain ⟨l, w1, w2, w3, -⟩ := hland p (by omega)
      rw [kAs2 13 (by omega) (by decide), kAs2 4 (by omega) (by decide), hd2e p (by omega)]
      exact ⟨l, w1, w2, w3⟩)
    (fun i hi => by
      obtain ⟨-, -, w3, -⟩ := k3.2 i hi
      exact vp_in_of w3 (by decide))
    (fun p k hp hk => by
      rw [ham]
      show px_X9_aimTo_5_1 n I (pA_X3_renew_46 n I A J (true, t.2)) J (true, t.2) (pA_X3_renew_46 n I A J (true, t.2) 10 k) (pA_X3_renew_46 n I A J (true, t.2) 13 p) = _
      rw [rA 10 (by decide) (by decide), rA 13 (by decide) (by decide), kAs2 10 (by omega) (by decide), kAs2 13 (by omega) (by decide)]
      exact sc_aim (by rw [rA 2 (by decide) (by decide), kAs2 2 (by omega) (by decide)]) (by rw [rA 3 (by decide) (by decide), kAs2 3 (by omega) (by decide)]) (by rw [rA 6 (by decide) (by decide), kAs2 6 (by omega) (by decide)]) (by rw [rA 7 (by decide) (by decide), kAs2 7 (by omega) (by decide)]))
    (fun C s l hC s4 l8 => (gw_5 (n := n) (J := J) (t := (true, t.2)) (J2 := J2) (t2 := t2) (rc_lands k1 rfl rfl (hC 2 (by omega)) (hC 3 (by omega)) (hC 4 (by omega)) rfl rfl rfl) (rc_sites k2 rfl rfl (hC 6 (by omega)) (hC 7 (by omega)) rfl rfl) s4 l8).2.2.2.2.2.2)
    hd2b P 0 n As (by omega) (by omega) (fun _ _ => rfl)
    (by
      obtain ⟨w1, w2, w3⟩ := H2 h (Nat.le_refl _) h24
      refine ⟨fun q hq => absurd hq (by omega), fun q _ hq => ?_, fun k hk => ?_, ?_, fun _ _ => ⟨rfl, rfl, rfl, rfl⟩, fun _ _ => rfl, fun _ _ => rfl⟩
      · rw [kAs2 54 (by omega) (by decide), kAs2 55 (by omega) (by decide), kAs2 56 (by omega) (by decide), kAs2 57 (by omega) (by decide)]
        exact w2 q hq
      · rw [kAs2 58 (by omega) (by decide)]; exact w3 k hk
      · rw [kAs2 59 (by omega) (by decide)]; exact w1)
  rw [z0] at e1 e2
  obtain ⟨Ae, hAe⟩ : ∃ Ae, Ae = pA_X11_settle_0 n Io As J (true, t.2) (nI h) := ⟨_, rfl⟩
  have e2' : se_done (hr_ok M P Rb) (hr_g hd2 Rb) M P hd2 am h As Ae P := by rw [hAe]; exact e2
  rw [← hAe]
  have kAe : ∀ c, (c < 54 ∨ 60 ≤ c) → Ae c = As c := fun c hc => by rw [hAe]; exact fr_pA_X11_settle_0 (by simp; omega)
  obtain ⟨D1, D2, D3, D4, D5, D6, D7⟩ := e2'
  obtain ⟨G1, G2, G3⟩ := z2
  have e113 : Rl 113 h = nI (sv_H (hr_ok M P Rb) (hr_g hd2 Rb) M P hd2 P) := by rw [z3 h, if_pos rfl]
  refine ⟨pbo, s1, e1, a2, z1, sc_keep hctxs (by omega) (fun _ _ _ _ => rfl) (fun c hc => kAe c (by omega)) (fun _ _ => rfl) (fun c hc => by rw [kRl c hc, kRb c (by omega)]), eI9, eR40, eI12, eR43, ⟨fun k hk => ?_, fun k hk hk24 => ?_, fun i hi => ?_⟩, by rw [D4, e113], ?_⟩
  · -- the hours that are made
    by_cases w : k = h
    · subst w
      refine ⟨by rw [D4, e113], fun p hp => ?_⟩
      obtain ⟨y1, y2, y3⟩ := D1 p hp
      obtain ⟨y4, y5⟩ := G1 p hp
      refine ⟨y1.trans y4.symm, ?_⟩
      rcases sv_ch_or (ok := hr_ok M P Rb) (g := hr_g hd2 Rb) (P := P) M6 p (sv_U (hr_ok M P Rb) (hr_g hd2 Rb) M P p) with ⟨c1, -⟩ | ⟨m', c1, c2, c3, c4, c5⟩
      · obtain ⟨x1, x2, x3⟩ := y2 c1
        exact Or.inl ⟨y4.trans c1, x1, x2, x3⟩
      · obtain ⟨x1, x2, x3⟩ := y3 m' c1 c5
        obtain ⟨x4, x5, x6⟩ := y5 m' c1 c5
        refine Or.inr ⟨by rw [y4, c5]; exact sv_n1 (by omega), ?_⟩
        rcases hr_pr a4' hp c1 with ⟨w1, -⟩ | ⟨w1, w2, b, s, u1, u2, u3, u4, u5, u6, u7, u8, u9, u10⟩
        · rw [w1] at c2; exact absurd c2 (by decide)
        · rw [x1, x2, x3, x4, x5, x6, kAs 48 (by decide) (by decide), kAs 49 (by decide) (by decide), u4, u5, u6, u8, u9]
          exact ⟨rfl, rfl, rfl⟩
    · obtain ⟨w1, w2⟩ := H1 k (by omega)
      refine ⟨?_, fun p hp => ?_⟩
      · rw [D7 k w, kAs2 59 (by omega) (by decide), z3 k, if_neg w, kRb 113 (by omega)]; exact w1
      · obtain ⟨y1, y2, y3, y4⟩ := D5 (10 * k + p) (by omega)
        obtain ⟨y5, y6, y7, y8⟩ := G3 (10 * k + p) (by omega)
        have old := w2 p hp
        unfold hr_slot at old ⊢
        rw [y1, y2, y3, y4, y5, y6, y7, y8, kAs2 54 (by omega) (by decide), kAs2 55 (by omega) (by decide), kAs2 56 (by omega) (by decide), kAs2 57 (by omega) (by decide), kRb 109 (by omega), kRb 110 (by omega), kRb 111 (by omega), kRb 112 (by omega)]
        exact old
  · -- the hours to come
    obtain ⟨w1, w2, w3⟩ := H2 k (by omega) hk24
    refine ⟨?_, fun q hq => ?_, fun k' hk' => ?_⟩
    · rw [D7 k (by omega), kAs2 59 (by omega) (by decide)]; exact w1
    · obtain ⟨y1, y2, y3, y4⟩ := D5 (10 * k + q) (by omega)
      rw [y1, y2, y3, y4, kAs2 54 (by omega) (by decide), kAs2 55 (by omega) (by decide), kAs2 56 (by omega) (by decide), kAs2 57 (by omega) (by decide)]
      exact w2 q hq
    · rw [D6 (6 * k + k') (by omega), kAs2 58 (by omega) (by decide)]
      exact w3 k' hk'
  · rw [G2 i hi, if_neg (by omega)]
    have eh : h + 1 - 1 = h := by omega
    rw [eh, D3 i hi]
    exact se_W M6 (fun p k hp hk ho => by
      rcases hr_pr a4' hp hk with ⟨w1, -⟩ | ⟨w1, w2, b, s, u1, u2, u3, u4, u5, u6, u7, u8, u9, u10⟩
      · rw [w1] at ho; exact absurd ho (by decide)
      · exact u6) P (Nat.le_refl _) i hi
  · funext k
    exact kIo 53 k (by decide)

set_option maxHeartbeats 4000000 in
theorem hr_hour60 {n : Nat} {I A I2 B I0 A0 Ir Br : Nat → Nat → Int32} {J J2 J0 : Nat → Nat → Int64} {t t2 t0 : Bool × Bool} {N m M P d h : Nat} {v3 : Int32} (hn : 500 ≤ n) (M6 : M ≤ 6) (P10 : P ≤ 10) (hdd : d < 3600) (h24 : h < 24) (hctx : sc_ctx 60 n I0 A0 J0 t0 N m I A I2 B) (h9 : I 9 2 = nI M) (h40 : I2 68 40 = nI M) (h12 : I 12 3 = nI P) (h43 : I2 68 43 = nI P) (hI : hr_in P h A B) :
    ∃ Io Ao As Ae Ri Rb Rl, Io = pI_X11_offerAll_0_tFx n I A J (false, t.2) (nI d) (nI h) (nI N) ∧ Ao = pA_X11_offerAll_0_tFx n I A J (false, t.2) (nI d) (nI h) (nI N) ∧ As = pA_X3_solve_46 n Io Ao J (false, t.2) (nI M) ∧ Ae = pA_X11_settle_0 n Io As J (false, t.2) (nI h) ∧ Ri = qIw53_X12_schedule_68 n Ir Br J2 t2 (nI d) (nI N) I2 B v3 (nI h) ∧ Rb = qAw53_X12_schedule_68 n Ir Br J2 t2 (nI d) (nI N) I2 B v3 (nI h) ∧ Rl = pA_X12_lays_68 n Ri Rb J2 t2 (nI h) ∧
      pb_X11_offerAll_0_tFx n I A J (false, t.2) (nI d) (nI h) (nI N) ∧ pb_X3_solve_46 n Io Ao J (false, t.2) (nI M) ∧ pb_X11_settle_0 n Io As J (false, t.2) (nI h) ∧ lb_X12_schedule_68_53 n Ir Br J2 t2 (nI d) (nI N) I2 B v3 (nI h) n I2 B 0 ∧ pb_X12_lays_68 n Ri Rb J2 t2 (nI h) ∧
      sc_ctx 60 n I0 A0 J0 t0 N m Io Ae Ri Rl ∧ Io 9 2 = nI M ∧ Ri 68 40 = nI M ∧ Io 12 3 = nI P ∧ Ri 68 43 = nI P ∧ hr_in P (h + 1) Ae Rl ∧ Ae 59 h = Rl 113 h ∧ Io 53 = I 53 := by
  refine ⟨_, _, _, _, _, _, _, rfl, rfl, rfl, rfl, rfl, rfl, rfl, ?_⟩
  obtain ⟨H1, H2, H3⟩ := id hI
  obtain ⟨⟨l1, l2, l3, l4, l5, l6, l7⟩, -⟩ := id hctx
  have z0 : nI 0 = 0 := nI_0
  -- the renewed pairing
  have F47 := fl_47 (n := n) (I := I) (A := A) (J := J) (t := (false, t.2)) (x := 0) (by omega)
  have F50 := fl_50 (n := n) (I := I) (A := pA_J7_fill_53178_47 n I A J (false, t.2) 0) (J := J) (t := (false, t.2)) (x := -1) (by omega)
  have rA : ∀ c, c ≠ 47 → c ≠ 50 → pA_X3_renew_46 n I A J (false, t.2) c = A c := fun c q1 q2 => fr_pA_X3_renew_46 (by simp [q1, q2])
  have r47 : ∀ x, x < 60 → pA_X3_renew_46 n I A J (false, t.2) 47 x = 0 := fun x hx => by
    unfold pA_X3_renew_46
    rw [fr_pA_J7_fill_53178_50 (by decide)]
    exact F47.2 x hx
  have r50 : ∀ x, x < 10 → pA_X3_renew_46 n I A J (false, t.2) 50 x = -1 := fun x hx => F50.2 x hx
  have rI : pI_X3_renew_46 n I A J (false, t.2) = cw_u I 46 5 0 := rfl
  have kI0 : ∀ c k, c ≠ 46 → pI_X3_renew_46 n I A J (false, t.2) c k = I c k := fun c k hc => by rw [rI, cw_u_c _ _ hc]
  -- what the lands of the programmes hear
  obtain ⟨hd, hhd⟩ : ∃ hd : Nat → Nat, hd = fun p => (A 4 (A 13 p).toNatClampNeg).toNatClampNeg := ⟨_, rfl⟩
  have hland : ∀ p, p < 10 → ∃ l, l < 8 ∧ A 13 p = nI l ∧ A 4 l = nI (hd p) ∧ hd p ≤ 10000 := fun p hp => by
    obtain ⟨-, -, -, w4⟩ := l4.2 p hp
    obtain ⟨l, hl, el⟩ := vp_in_of w4 (by decide)
    obtain ⟨-, -, -, -, -, w6⟩ := l1.2 l hl
    obtain ⟨k, hk, ek⟩ := vp_in_of w6 (by decide)
    have : hd p = k := by rw [hhd]; show (A 4 (A 13 p).toNatClampNeg).toNatClampNeg = k; rw [el, nI_clamp (by omega), ek, nI_clamp (by omega)]
    exact ⟨l, hl, el, by rw [this]; exact ek, by omega⟩
  obtain ⟨hd2, hhd2⟩ : ∃ hd2 : Nat → Nat, hd2 = fun p => if p < 10 then hd p else 0 := ⟨_, rfl⟩
  have hd2e : ∀ p, p < 10 → hd2 p = hd p := fun p hp => by rw [hhd2]; exact if_pos hp
  have hd2b : ∀ p, hd2 p ≤ 10000 := fun p => by
    by_cases w : p < 10
    · rw [hd2e p w]
      obtain ⟨-, -, -, -, y⟩ := hland p w
      exact y
    · rw [hhd2]
      show (if p < 10 then hd p else 0) ≤ 10000
      rw [if_neg w]; omega
  have hl : ∀ p, p < 10 → ∃ l, l < 8 ∧ pA_X3_renew_46 n I A J (false, t.2) 13 p = nI l ∧ pA_X3_renew_46 n I A J (false, t.2) 4 l = nI (hd2 p) := fun p hp => by
    obtain ⟨l, w1, w2, w3, -⟩ := hland p hp
    rw [rA 13 (by decide) (by decide), rA 4 (by decide) (by decide), hd2e p hp]
    exact ⟨l, w1, w2, w3⟩
  have hw0 : sc_wo 60 n I0 A0 J0 t0 N m (pA_X3_renew_46 n I A J (false, t.2)) (fun i => B 117 i) (pI_X3_renew_46 n I A J (false, t.2)) (pA_X3_renew_46 n I A J (false, t.2)) I2 B := ⟨sc_keep hctx (by omega) (fun c k q1 _ => kI0 c k q1) (fun c hc => rA c (by omega) (by omega)) (fun _ _ => rfl) (fun _ _ => rfl), fun _ _ => rfl, rfl, fun _ _ => rfl⟩
  have hS0 : sc_st M hd2 (fun q i => px_X9_aimTo_5_1 n I (pA_X3_renew_46 n I A J (false, t.2)) J (false, t.2) (pA_X3_renew_46 n I A J (false, t.2) 10 i) (pA_X3_renew_46 n I A J (false, t.2) 13 q)) (pI_X3_renew_46 n I A J (false, t.2)) (pA_X3_renew_46 n I A J (false, t.2)) B 0 0 := by
    refine ⟨fun q k hk hq => absurd hq (by omega), fun q k hk hq hq10 => r47 _ (by omega), fun _ => false, false, ⟨by rw [rI, cw_u_s]; rfl, fun q hq => absurd hq (by omega), fun z => absurd z (by decide)⟩, ⟨fun z => absurd z (by decide), fun ⟨k, hk, _⟩ => absurd hk (Nat.not_lt_zero _)⟩, fun q hq => absurd hq (by omega)⟩
  obtain ⟨a1, a2, a3, a4⟩ := sc_all60 (n := n) (Ic := I) (Ac := A) (Ir := Ir) (Br := Br) (I43 := I2) (A43 := B) (Ib := I) (J := J) (J2 := J2) (t := (false, t.2)) (t2 := t2) (v3 := v3) (d := d) (h := h) hn M6 P10 hdd h24 hl (fun i hi => by rw [rA 58 (by decide) (by decide)]; exact H3 i hi) P 0 n n (pI_X3_renew_46 n I A J (false, t.2)) (pA_X3_renew_46 n I A J (false, t.2)) I2 B (by omega) (by omega) (by omega) hw0 (by rw [kI0 9 2 (by decide)]; exact h9) h40 (by rw [kI0 12 3 (by decide)]; exact h12) h43 hS0
  rw [z0] at a1 a2 a3 a4
  -- names for the worlds
  obtain ⟨Io, hIo⟩ : ∃ Io, Io = pI_X11_offerAll_0_tFx n I A J (false, t.2) (nI d) (nI h) (nI N) := ⟨_, rfl⟩
  obtain ⟨Ao, hAo⟩ : ∃ Ao, Ao = pA_X11_offerAll_0_tFx n I A J (false, t.2) (nI d) (nI h) (nI N) := ⟨_, rfl⟩
  obtain ⟨Ri, hRi⟩ : ∃ Ri, Ri = qIw53_X12_schedule_68 n Ir Br J2 t2 (nI d) (nI N) I2 B v3 (nI h) := ⟨_, rfl⟩
  obtain ⟨Rb, hRb⟩ : ∃ Rb, Rb = qAw53_X12_schedule_68 n Ir Br J2 t2 (nI d) (nI N) I2 B v3 (nI h) := ⟨_, rfl⟩
  have a3' : sc_wo 60 n I0 A0 J0 t0 N m (pA_X3_renew_46 n I A J (false, t.2)) (fun i => B 117 i) Io Ao Ri Rb := by rw [hIo, hAo, hRi, hRb]; exact a3
  have a4' : sc_st M hd2 (fun q i => px_X9_aimTo_5_1 n I (pA_X3_renew_46 n I A J (false, t.2)) J (false, t.2) (pA_X3_renew_46 n I A J (false, t.2) 10 i) (pA_X3_renew_46 n I A J (false, t.2) 13 q)) Io Ao Rb P 0 := by rw [hIo, hAo, hRb]; exact a4
  have pbo : pb_X11_offerAll_0_tFx n I A J (false, t.2) (nI d) (nI h) (nI N) := ⟨⟨F47.1, F50.1⟩, a1⟩
  rw [← hIo, ← hAo, ← hRi, ← hRb]
  have kIo : ∀ c k, c ≠ 46 → Io c k = I c k := fun c k hc => by rw [hIo]; exact fr_pI_X11_offerAll_0_tFx (by simp [hc])
  have kAo : ∀ c, c ≠ 45 → c ≠ 47 → c ≠ 48 → c ≠ 49 → c ≠ 50 → c ≠ 51 → c ≠ 67 → Ao c = A c := fun c q1 q2 q3 q4 q5 q6 q7 => by rw [hAo]; exact fr_pA_X11_offerAll_0_tFx (by simp [q1, q2, q3, q4, q5, q6, q7])
  have kRi : ∀ k, k < 59 → Ri 68 k = I2 68 k := fun k hk => by rw [hRi]; exact fr_qIw53_X12_schedule_68 (by simp; omega)
  have kRb : ∀ c, (c < 107 ∨ 109 ≤ c ∧ c ≤ 113 ∨ c = 117) → Rb c = B c := fun c hc => by rw [hRb]; exact fr_qAw53_X12_schedule_68 (by simp; omega)
  have o50 : ∀ p, p < P → Ao 50 p = -1 := fun p hp => by
    have : Ao 50 = pA_X3_renew_46 n I A J (false, t.2) 50 := by
      rw [hAo]
      unfold pA_X11_offerAll_0_tFx qAw10_X11_offerAll_0_tFx
      exact fr_lp_X11_offerAll_0_tFx_10_c1 (by decide) _ _ _ _
    rw [this]; exact r50 p (by omega)
  obtain ⟨K, ask, Q⟩ := hr_sq a4' M6 P10 hd2b
  obtain ⟨s1, s2⟩ := sq_solve (n := n) (J := J) (t := (false, t.2)) Q (by omega) o50
  obtain ⟨As, hAs⟩ : ∃ As, As = pA_X3_solve_46 n Io Ao J (false, t.2) (nI M) := ⟨_, rfl⟩
  rw [← hAs] at s2 ⊢
  have kAs : ∀ c, c ≠ 50 → c ≠ 52 → As c = Ao c := fun c q1 q2 => by rw [hAs]; exact fr_pA_X3_solve_46 (by simp [q1, q2])
  have kAs2 : ∀ c, (c < 45 ∨ 53 ≤ c) → c ≠ 67 → As c = A c := fun c hc q => by rw [kAs c (by omega) (by omega)]; exact kAo c (by omega) (by omega) (by omega) (by omega) (by omega) (by omega) q
  have eR43 : Ri 68 43 = nI P := by rw [kRi 43 (by omega)]; exact h43
  have eR40 : Ri 68 40 = nI M := by rw [kRi 40 (by omega)]; exact h40
  have eI12 : Io 12 3 = nI P := by rw [kIo 12 3 (by decide)]; exact h12
  have eI9 : Io 9 2 = nI M := by rw [kIo 9 2 (by decide)]; exact h9
  have hlR : ∀ p, p < P → ∃ l, l < 8 ∧ Rb 94 p = nI l ∧ Rb 91 l = nI (hd2 p) := fun p hp => by
    obtain ⟨l, w1, w2, w3, -⟩ := hland p (by omega)
    obtain ⟨y1, -, -, -⟩ := l4.2 p (by omega)
    obtain ⟨-, -, y3, -⟩ := l1.2 l w1
    rw [kRb 94 (by omega), kRb 91 (by omega), ← y1, hd2e p (by omega)]
    exact ⟨l, w1, w2, by rw [← y3]; exact w3⟩
  have LZ := hr_lz a4' M6 P10 hd2b eR43 eR40 hlR
  obtain ⟨z1, z2, z3⟩ := lz_lays (n := n) (J := J2) (t := t2) (hr := h) (by omega) LZ h24
  obtain ⟨Rl, hRl⟩ : ∃ Rl, Rl = pA_X12_lays_68 n Ri Rb J2 t2 (nI h) := ⟨_, rfl⟩
  rw [← hRl] at z2 z3 ⊢
  have kRl : ∀ c, c < 107 → Rl c = B c := fun c hc => by
    rw [hRl, fr_pA_X12_lays_68 (by simp; omega)]; exact kRb c (by omega)
  -- settling
  obtain ⟨am, ham⟩ : ∃ am : Nat → Nat → Int32, am = fun q i => px_X9_aimTo_5_1 n I (pA_X3_renew_46 n I A J (false, t.2)) J (false, t.2) (pA_X3_renew_46 n I A J (false, t.2) 10 i) (pA_X3_renew_46 n I A J (false, t.2) 13 q) := ⟨_, rfl⟩
  rw [← ham] at a4'
  have hctxo := a3'.1
  have hctxs : sc_ctx 60 n I0 A0 J0 t0 N m Io As Ri Rb := sc_keep hctxo (by omega) (fun _ _ _ _ => rfl) (fun c hc => kAs c (by omega) (by omega)) (fun _ _ => rfl) (fun _ _ => rfl)
  obtain ⟨⟨k1, k2, k3, -⟩, -⟩ := id hctxs
  obtain ⟨e1, e2⟩ := se_loop (n := n) (M := M) (P := P) (hr := h) (I := Io) (A := As) (Ac := As) (J := J) (t := (false, t.2)) (ok := hr_ok M P Rb) (g := hr_g hd2 Rb) (hd := hd2) (am := am) (by omega) M6 P10 h24 eI12 s2
    (fun p hp => by
      obtain ⟨l, w1, w2, w3, -⟩ := hland p (by omega)
      rw [kAs2 13 (by omega) (by decide), kAs2 4 (by omega) (by decide), hd2e p (by omega)]
      exact ⟨l, w1, w2, w3⟩)
    (fun i hi => by
      obtain ⟨-, -, w3, -⟩ := k3.2 i hi
      exact vp_in_of w3 (by decide))
    (fun p k hp hk => by
      rw [ham]
      show px_X9_aimTo_5_1 n I (pA_X3_renew_46 n I A J (false, t.2)) J (false, t.2) (pA_X3_renew_46 n I A J (false, t.2) 10 k) (pA_X3_renew_46 n I A J (false, t.2) 13 p) = _
      rw [rA 10 (by decide) (by decide), rA 13 (by decide) (by decide), kAs2 10 (by omega) (by decide), kAs2 13 (by omega) (by decide)]
      exact sc_aim (by rw [rA 2 (by decide) (by decide), kAs2 2 (by omega) (by decide)]) (by rw [rA 3 (by decide) (by decide), kAs2 3 (by omega) (by decide)]) (by rw [rA 6 (by decide) (by decide), kAs2 6 (by omega) (by decide)]) (by rw [rA 7 (by decide) (by decide), kAs2 7 (by omega) (by decide)]))
    (fun C s l hC s4 l8 => (gw_5 (n := n) (J := J) (t := (false, t.2)) (J2 := J2) (t2 := t2) (rc_lands k1 rfl rfl (hC 2 (by omega)) (hC 3 (by omega)) (hC 4 (by omega)) rfl rfl rfl) (rc_sites k2 rfl rfl (hC 6 (by omega)) (hC 7 (by omega)) rfl rfl) s4 l8).2.2.2.2.2.2)
    hd2b P 0 n As (by omega) (by omega) (fun _ _ => rfl)
    (by
      obtain ⟨w1, w2, w3⟩ := H2 h (Nat.le_refl _) h24
      refine ⟨fun q hq => absurd hq (by omega), fun q _ hq => ?_, fun k hk => ?_, ?_, fun _ _ => ⟨rfl, rfl, rfl, rfl⟩, fun _ _ => rfl, fun _ _ => rfl⟩
      · rw [kAs2 54 (by omega) (by decide), kAs2 55 (by omega) (by decide), kAs2 56 (by omega) (by decide), kAs2 57 (by omega) (by decide)]
        exact w2 q hq
      · rw [kAs2 58 (by omega) (by decide)]; exact w3 k hk
      · rw [kAs2 59 (by omega) (by decide)]; exact w1)
  rw [z0] at e1 e2
  obtain ⟨Ae, hAe⟩ : ∃ Ae, Ae = pA_X11_settle_0 n Io As J (false, t.2) (nI h) := ⟨_, rfl⟩
  have e2' : se_done (hr_ok M P Rb) (hr_g hd2 Rb) M P hd2 am h As Ae P := by rw [hAe]; exact e2
  rw [← hAe]
  have kAe : ∀ c, (c < 54 ∨ 60 ≤ c) → Ae c = As c := fun c hc => by rw [hAe]; exact fr_pA_X11_settle_0 (by simp; omega)
  obtain ⟨D1, D2, D3, D4, D5, D6, D7⟩ := e2'
  obtain ⟨G1, G2, G3⟩ := z2
  have e113 : Rl 113 h = nI (sv_H (hr_ok M P Rb) (hr_g hd2 Rb) M P hd2 P) := by rw [z3 h, if_pos rfl]
  refine ⟨pbo, s1, e1, a2, z1, sc_keep hctxs (by omega) (fun _ _ _ _ => rfl) (fun c hc => kAe c (by omega)) (fun _ _ => rfl) (fun c hc => by rw [kRl c hc, kRb c (by omega)]), eI9, eR40, eI12, eR43, ⟨fun k hk => ?_, fun k hk hk24 => ?_, fun i hi => ?_⟩, by rw [D4, e113], ?_⟩
  · -- the hours that are made
    by_cases w : k = h
    · subst w
      refine ⟨by rw [D4, e113], fun p hp => ?_⟩
      obtain ⟨y1, y2, y3⟩ := D1 p hp
      obtain ⟨y4, y5⟩ := G1 p hp
      refine ⟨y1.trans y4.symm, ?_⟩
      rcases sv_ch_or (ok := hr_ok M P Rb) (g := hr_g hd2 Rb) (P := P) M6 p (sv_U (hr_ok M P Rb) (hr_g hd2 Rb) M P p) with ⟨c1, -⟩ | ⟨m', c1, c2, c3, c4, c5⟩
      · obtain ⟨x1, x2, x3⟩ := y2 c1
        exact Or.inl ⟨y4.trans c1, x1, x2, x3⟩
      · obtain ⟨x1, x2, x3⟩ := y3 m' c1 c5
        obtain ⟨x4, x5, x6⟩ := y5 m' c1 c5
        refine Or.inr ⟨by rw [y4, c5]; exact sv_n1 (by omega), ?_⟩
        rcases hr_pr a4' hp c1 with ⟨w1, -⟩ | ⟨w1, w2, b, s, u1, u2, u3, u4, u5, u6, u7, u8, u9, u10⟩
        · rw [w1] at c2; exact absurd c2 (by decide)
        · rw [x1, x2, x3, x4, x5, x6, kAs 48 (by decide) (by decide), kAs 49 (by decide) (by decide), u4, u5, u6, u8, u9]
          exact ⟨rfl, rfl, rfl⟩
    · obtain ⟨w1, w2⟩ := H1 k (by omega)
      refine ⟨?_, fun p hp => ?_⟩
      · rw [D7 k w, kAs2 59 (by omega) (by decide), z3 k, if_neg w, kRb 113 (by omega)]; exact w1
      · obtain ⟨y1, y2, y3, y4⟩ := D5 (10 * k + p) (by omega)
        obtain ⟨y5, y6, y7, y8⟩ := G3 (10 * k + p) (by omega)
        have old := w2 p hp
        unfold hr_slot at old ⊢
        rw [y1, y2, y3, y4, y5, y6, y7, y8, kAs2 54 (by omega) (by decide), kAs2 55 (by omega) (by decide), kAs2 56 (by omega) (by decide), kAs2 57 (by omega) (by decide), kRb 109 (by omega), kRb 110 (by omega), kRb 111 (by omega), kRb 112 (by omega)]
        exact old
  · -- the hours to come
    obtain ⟨w1, w2, w3⟩ := H2 k (by omega) hk24
    refine ⟨?_, fun q hq => ?_, fun k' hk' => ?_⟩
    · rw [D7 k (by omega), kAs2 59 (by omega) (by decide)]; exact w1
    · obtain ⟨y1, y2, y3, y4⟩ := D5 (10 * k + q) (by omega)
      rw [y1, y2, y3, y4, kAs2 54 (by omega) (by decide), kAs2 55 (by omega) (by decide), kAs2 56 (by omega) (by decide), kAs2 57 (by omega) (by decide)]
      exact w2 q hq
    · rw [D6 (6 * k + k') (by omega), kAs2 58 (by omega) (by decide)]
      exact w3 k' hk'
  · rw [G2 i hi, if_neg (by omega)]
    have eh : h + 1 - 1 = h := by omega
    rw [eh, D3 i hi]
    exact se_W M6 (fun p k hp hk ho => by
      rcases hr_pr a4' hp hk with ⟨w1, -⟩ | ⟨w1, w2, b, s, u1, u2, u3, u4, u5, u6, u7, u8, u9, u10⟩
      · rw [w1] at ho; exact absurd ho (by decide)
      · exact u6) P (Nat.le_refl _) i hi
  · funext k
    exact kIo 53 k (by decide)
