/-! a rule's head, on both sides: pieces -/
theorem kv_di {b : Int32} (h : tz_di b = true) : ∃ c, c ≤ 9 ∧ b = nI (48 + c) := by
  have := of_decide_eq_true h
  obtain ⟨k, hk, rfl⟩ := nI_of (x := b) (fun z => this.1 (by
    rw [tI_lt] at z ⊢
    have z0 : (0 : Int32).toInt = 0 := rfl
    have z1 : (48 : Int32).toInt = 48 := rfl
    omega))
  have h1 : 48 ≤ k := Nat.le_of_not_lt (fun z => this.1 (nI_lt (b := 48) z (by omega)))
  have h2 : k ≤ 57 := Nat.le_of_not_lt (fun z => this.2 (nI_lt (a := 57) z hk))
  exact ⟨k - 48, by omega, by congr 1; omega⟩
theorem kv_vl {T : Nat → Int32} {p : Nat} : ∀ k, k ≤ 4 → (∀ i, i < k → tz_di (T (p + i)) = true) → ∃ m, m < 10 ^ k ∧ tz_vl T p k = nI m
  | 0, _, _ => ⟨0, by decide, rfl⟩
  | k + 1, hk, h => by
    obtain ⟨m, h1, h2⟩ := kv_vl (T := T) (p := p) k (by omega) (fun i hi => h i (by omega))
    obtain ⟨c, h3, h4⟩ := kv_di (h k (by omega))
    refine ⟨10 * m + c, by rw [Nat.pow_succ]; omega, ?_⟩
    unfold tz_vl
    have e10 : (10 : Int32) = nI 10 := rfl
    have e48 : (48 : Int32) = nI 48 := rfl
    rw [if_neg (by omega), h2, h4, e10, e48, pk_mul, nI_add, pk_sub (by omega)]
    congr 1
    omega
theorem kv_n {T : Nat → Int32} {L k : Nat} (h : kK T L k = 2) : ∃ m, m < 10000 ∧ kV T L k = nI m := by
  unfold kK tz_k at h
  unfold kV tz_v
  by_cases c1 : L ≤ tz_p T L (cz_s T L k)
  · rw [if_pos c1] at h; omega
  rw [if_neg c1] at h
  rw [if_neg c1]
  by_cases c2 : tz_le (T (tz_p T L (cz_s T L k))) = true
  · rw [if_pos c2] at h
    unfold tz_wk at h
    split at h
    · rcases cx_fw (T := T) (p := tz_p T L (cz_s T L k)) (e := tz_run tz_le T L (tz_p T L (cz_s T L k))) 15 (by omega) with y | y <;> omega
    · omega
  rw [if_neg c2] at h
  rw [if_neg c2]
  by_cases c3 : tz_di (T (tz_p T L (cz_s T L k))) = true
  · rw [if_pos c3] at h
    rw [if_pos c3]
    have rb := tz_run_b (P := tz_di) (T := T) (L := L) (L - tz_p T L (cz_s T L k)) (tz_p T L (cz_s T L k)) (by omega)
    split at h
    · rename_i u
      obtain ⟨m, m1, m2⟩ := kv_vl (T := T) (p := tz_p T L (cz_s T L k)) _ u (fun i hi => rb.2.2.2 _ (by omega) (by omega))
      refine ⟨m, ?_, m2⟩
      have : 10 ^ (tz_run tz_di T L (tz_p T L (cz_s T L k)) - tz_p T L (cz_s T L k)) ≤ 10 ^ 4 := Nat.pow_le_pow_right (by omega) u
      omega
    · omega
  · rw [if_neg c3] at h
    exfalso
    revert h
    unfold tz_sg
    repeat' split
    all_goals omega
/-- the first wrong place so far -/
def WQ (T : Nat → Int32) (L k : Nat) (wr i15 i16 : Int32) : Prop := (i15 = 0 ∧ wr = -1) ∨ (i15 = 5 ∧ ∃ q, q < k ∧ i16 = nI (kP T L q) ∧ wr = nI (kP T L q))
/-- only the rule at work has changed -/
def HA (v z : Nat) (As A : Nat → Nat → Int32) : Prop := (∀ r, r ≠ 77 → r ≠ 78 → r ≠ 79 → A r = As r) ∧ ∀ r i, i ≠ 20 * v + z → A r i = As r i
section Th
variable {c n L C v R p0 p z ks k s fa q σ : Nat} {T : Nat → Int32} {th fi be wr x1 : Int32} {I0 A0 Is As A2s I A I2 A2 A1 A3 I3 : Nat → Nat → Int32} {J J2 : Nat → Nat → Int64} {t t2 : Bool × Bool} {x qq : Nat → Nat}
theorem HA_refl : HA v z A A := ⟨fun _ _ _ _ => rfl, fun _ _ _ => rfl⟩
theorem HA_u (h : HA v z A2s A) {r : Nat} {y : Int32} (hr : r = 77 ∨ r = 78 ∨ r = 79) : HA v z A2s (cw_u A r (20 * v + z) y) := by
  refine ⟨fun a h1 h2 h3 => ?_, fun a i hi => ?_⟩
  · rw [cw_u_c _ _ (by omega)]; exact h.1 a h1 h2 h3
  · rw [cu_n (by omega)]; exact h.2 a i hi
theorem HA_T (h : HA v z A2s A) (hT : RT T L C A2s) : RT T L C A := RT_c hT (h.1 71 (by decide) (by decide) (by decide)) (h.1 72 (by decide) (by decide) (by decide)) (h.1 73 (by decide) (by decide) (by decide))
theorem HA_S (hz : z < 20) (h : HA v z A2s A) : FS v A2s A := by
  refine ⟨fun r hr => h.1 r (by omega) (by omega) (by omega), fun r i h1 h2 h3 => ?_⟩
  by_cases e : r = 77 ∨ r = 78 ∨ r = 79
  · have w : wd r = 20 := by
      unfold wd
      rw [if_neg (by omega), if_pos (by omega)]
    rw [w] at h3
    exact h.2 r i (by omega)
  · rw [h.1 r (by omega) (by omega) (by omega)]
theorem HA_G (h : HA v z A2s A) : GB v z R p A2s A := by
  refine ⟨fun i _ => ?_, fun i hi => ?_, fun i _ => ?_, fun i _ => ?_⟩
  · rw [h.1 80 (by decide) (by decide) (by decide)]
  · rw [h.2 77 _ (by omega), h.2 78 _ (by omega), h.2 79 _ (by omega)]
    exact ⟨rfl, rfl, rfl⟩
  · rw [h.1 82 (by decide) (by decide) (by decide), h.1 83 (by decide) (by decide) (by decide), h.1 84 (by decide) (by decide) (by decide), h.1 85 (by decide) (by decide) (by decide)]
    exact ⟨rfl, rfl, rfl, rfl⟩
  · rw [h.1 86 (by decide) (by decide) (by decide), h.1 87 (by decide) (by decide) (by decide)]
    exact ⟨rfl, rfl⟩
/-- 'from' or 'until' and a number -/
theorem kw_int (hc : c = 37 ∨ c = 60) (hn : 2100 ≤ n) (hL : L ≤ 2000) (hT : RT T L C A2) (hk : k < C) (hC : CI c T L k s 0 σ z 0 0 th fi be wr I A) {s' : Nat} (hK : (kK T L k = 16 ∧ s' = 3 ∧ s = 2) ∨ (kK T L k = 17 ∧ s' = 5 ∧ (s = 2 ∨ s = 4))) (hI : RQ v k 0 p I2) : pb_X12_next_68 n I2 A2 J2 t2 ∧ pb_X12_must_68 n (pI_X12_next_68 n I2 A2 J2 t2) A2 J2 t2 2 ∧ ((∃ fa q I' A', Mq T L fa q (pI_X12_must_68 n (pI_X12_next_68 n I2 A2 J2 t2) A2 J2 t2 2) ∧ CE c n I0 A0 J t x1 k I A (nI fa) I' A' ∧ I' 34 4 = nI (kP T L q)) ∨ (k + 1 < 400 ∧ k + 2 < C ∧ kK T L (k + 1) = 2 ∧ pI_X12_next_68 n I2 A2 J2 t2 68 11 = nI (k + 1) ∧ (∃ I', CR c n I0 A0 J t x1 k I A (k + 1) I' A ∧ CI c T L (k + 1) s' 0 σ z 0 0 th fi be wr I' A) ∧ RQ v (k + 2) 0 p (pI_X12_must_68 n (pI_X12_next_68 n I2 A2 J2 t2) A2 J2 t2 2) ∧ pI_X12_must_68 n (pI_X12_next_68 n I2 A2 J2 t2) A2 J2 t2 2 68 15 = I2 68 15 ∧ pI_X12_must_68 n (pI_X12_next_68 n I2 A2 J2 t2) A2 J2 t2 2 68 16 = I2 68 16)) := by
  have hk4 := (RT_k hT hk).1
  have eB : sB s 0 0 (kK T L k) = s' := by
    rcases hK with ⟨a, b, d⟩ | ⟨a, b, d | d⟩ <;> rw [a] <;> subst b <;> subst d <;> rfl
  have k0 : ¬ kK T L k = 0 := by omega
  by_cases c4 : k = 400
  · obtain ⟨n1, n2⟩ := rq_next4 (n := n) (J := J2) (t := t2) hT hk c4 hI
    have m := Mq_must (n := n) (A := A2) (J := J2) (t := t2) (x := 2) n2
    obtain ⟨I', g1, g2⟩ := cl_stop (I0 := I0) (A0 := A0) (J := J) (t := t) (x1 := x1) hc hn hL hk4 hC (FO_2 k0 (by omega) c4) (Or.inr rfl)
    refine ⟨n1, m.1, Or.inl ⟨2, k, I', A, ?_, g1, g2⟩⟩
    rw [m.2]; exact n2
  · obtain ⟨n1, n2, n3, n4⟩ := rq_next (n := n) (A := A2) (J := J2) (t := t2) hI (by omega)
    have hk1 : k + 1 < C := RT_n hT hk (by omega) k0
    have hk14 := (RT_k hT hk1).1
    obtain ⟨I', g1, g2⟩ := cl_go (I0 := I0) (A0 := A0) (J := J) (t := t) (x1 := x1) hc hn hL (by omega) hC (by omega) eB (by omega) (by omega)
    obtain ⟨m1, m2⟩ := rq_must (n := n) (J := J2) (t := t2) hT hk1 n2 (μ := 2) (by decide) (by decide) (by decide) (x := 2) rfl
    refine ⟨n1, m1, ?_⟩
    rcases m2 with ⟨u1, u2, u3, u4, u5, u6⟩ | ⟨u1, u2, u3⟩ | ⟨u1, u2⟩
    · exact Or.inr ⟨u2, u3, u1, n2.2.1, ⟨I', g1, g2⟩, u4, u5.trans n3, u6.trans n4⟩
    · left
      have eB2 : ¬ sB s' 0 0 (kK T L (k + 1)) = 99 := by
        rw [u1]
        rcases hK with ⟨_, b, _⟩ | ⟨_, b, _⟩ <;> subst b <;> decide
      obtain ⟨I'', h1, h2⟩ := cl_stop (I0 := I0) (A0 := A0) (J := J) (t := t) (x1 := x1) hc hn hL hk14 g2 (FO_2 (by omega) eB2 u2) (Or.inr rfl)
      exact ⟨2, k + 1, I'', A, u3, CE_trans g1 (by omega) h1, h2⟩
    · left
      have eB2 : sB s' 0 0 (kK T L (k + 1)) = 99 := by
        rcases hK with ⟨_, b, _⟩ | ⟨_, b, _⟩ <;> subst b
        · have e : sB 3 0 0 (kK T L (k + 1)) = if kK T L (k + 1) = 2 then 4 else 99 := rfl
          rw [e, if_neg u1]
        · have e : sB 5 0 0 (kK T L (k + 1)) = if kK T L (k + 1) = 2 then 6 else 99 := rfl
          rw [e, if_neg u1]
      obtain ⟨I'', h1, h2⟩ := cl_stop (I0 := I0) (A0 := A0) (J := J) (t := t) (x1 := x1) hc hn hL hk14 g2 (FO_1 (Or.inr eB2)) (Or.inl rfl)
      exact ⟨1, k + 1, I'', A, u2, CE_trans g1 (by omega) h1, h2⟩
/-- a number that is not behind the first day -/
theorem wr_step (hT : RT T L C A2) (hL : L ≤ 2000) {m : Nat} (hm : m < C) (hmk : m < k) (hI : RQ v k 0 p I2) {wr a b : Int32} (hW : WQ T L m wr (I2 68 15) (I2 68 16)) : pb_X12_wrong_68 n I2 A2 J2 t2 5 (nI m) ∧ RQ v k 0 p (if a < b then I2 else pI_X12_wrong_68 n I2 A2 J2 t2 5 (nI m)) ∧ WQ T L k (if a < b then wr else if wr = -1 then nI (kP T L m) else wr) ((if a < b then I2 else pI_X12_wrong_68 n I2 A2 J2 t2 5 (nI m)) 68 15) ((if a < b then I2 else pI_X12_wrong_68 n I2 A2 J2 t2 5 (nI m)) 68 16) := by
  have hm4 := (RT_k hT hm).1
  have h72 := (RT_k hT hm).2.2.1
  have q6 : q6_X12_wrong_68 n I2 A2 J2 t2 5 (nI m) = nI (kP T L m) := by
    unfold q6_X12_wrong_68
    rw [nI_clamp (by omega), h72]
  have z13 : ¬ 0 < I2 68 13 := by rw [hI.1]; decide
  have kp : ∀ q, ¬ nI (kP T L q) = (-1 : Int32) := fun q y => by
    have w := kP_le (T := T) (L := L) (k := q)
    have e := nI_pos (n := kP T L q) (by omega)
    rw [y] at e
    exact e (by decide)
  refine ⟨vp_in_nI (by omega) (by decide), ?_⟩
  by_cases c : a < b
  · rw [if_pos c, if_pos c]
    refine ⟨hI, ?_⟩
    rcases hW with h | ⟨h1, q, h2, h3⟩
    · exact Or.inl h
    · exact Or.inr ⟨h1, q, by omega, h3⟩
  · rw [if_neg c, if_neg c]
    rcases hW with ⟨h1, h2⟩ | ⟨h1, q, h2, h3, h4⟩
    · have e : pI_X12_wrong_68 n I2 A2 J2 t2 5 (nI m) = cw_u (cw_u I2 68 15 5) 68 16 (nI (kP T L m)) := by
        unfold pI_X12_wrong_68 qI53_X12_wrong_68 qI48_X12_wrong_68
        rw [q6, if_neg z13, if_pos h1]
      rw [e, if_pos h2]
      refine ⟨⟨(cu_n (by decide)).trans ((cu_n (by decide)).trans hI.1), (cu_n (by decide)).trans ((cu_n (by decide)).trans hI.2.1), (cu_n (by decide)).trans ((cu_n (by decide)).trans hI.2.2.1), (cu_n (by decide)).trans ((cu_n (by decide)).trans hI.2.2.2.1), (cu_n (by decide)).trans ((cu_n (by decide)).trans hI.2.2.2.2)⟩, Or.inr ⟨(cu_n (by decide)).trans cu_s, m, hmk, cu_s, rfl⟩⟩
    · have lt : kP T L q < kP T L m := ks_mono (T := T) (L := L) m h2 (fun q' hq => hT.2.2.1 q' (by omega))
      have w := kP_le (T := T) (L := L) (k := m)
      have e : pI_X12_wrong_68 n I2 A2 J2 t2 5 (nI m) = I2 := by
        unfold pI_X12_wrong_68
        rw [q6, if_neg z13, h1, if_neg (by decide), h3, if_pos (nI_lt lt (by omega))]
      rw [e, if_neg (by rw [h4]; exact kp q)]
      exact ⟨hI, Or.inr ⟨h1, q, by omega, h3, h4⟩⟩
theorem XF_trans (h : CR c n I0 A0 J t x1 ks Is As k I A) (hk : k ≤ 401) (H : XF c n L v k T x1 I0 A0 I A A2s J t I2 A2) : XF c n L v ks T x1 I0 A0 Is As A2s J t I2 A2 := by
  obtain ⟨fa, q, I', A', h1, h2, h3, h4⟩ := H
  exact ⟨fa, q, I', A', h1, CE_trans h hk h2, h3, h4⟩
theorem XE_trans {i15 i16 : Int32} (h : CR c n I0 A0 J t x1 ks Is As k I A) (hk : ks ≤ k) (H : XE c n L C v z k T wr x1 I0 A0 I A A2s J t qq i15 i16 I2 A2) : XE c n L C v z ks T wr x1 I0 A0 Is As A2s J t qq i15 i16 I2 A2 := by
  obtain ⟨k', R, x, I', A', h1, h2, h3, h4⟩ := H
  exact ⟨k', R, x, I', A', h1, by omega, CR_trans h h3, h4⟩
/-- behind a rule: the wrong place goes on -/
def XG (c n L C v z ks : Nat) (T : Nat → Int32) (x1 : Int32) (I0 A0 Is As A2s : Nat → Nat → Int32) (J : Nat → Nat → Int64) (t : Bool × Bool) (qq : Nat → Nat) (I2 A2 : Nat → Nat → Int32) : Prop := ∃ wr k R x I A, k < C ∧ ks + 1 ≤ k ∧ CR c n I0 A0 J t x1 ks Is As k I A ∧ C0 c T L k (x R + R) (z + 1) wr I A ∧ RQ v k 0 (x R) I2 ∧ PR c v (z + 1) R x (up qq (z + 1) R) A A2 ∧ A2 76 v = nI (z + 1) ∧ A2 81 v = nI R ∧ 4 * R ≤ k ∧ x R + R ≤ k ∧ FS v A2s A2 ∧ WQ T L k wr (I2 68 15) (I2 68 16)
theorem tl_go (hc : c = 37 ∨ c = 60) (hn : 2100 ≤ n) (hL : L ≤ 2000) (hv : v < 2) (hT0 : RT T L C A2s) (hk : k < C) (hks : ks ≤ k) (hCR : CR c n I0 A0 J t x1 ks Is As k I As) (hs : s = 2 ∧ ¬ kK T L k = 16 ∧ ¬ kK T L k = 17 ∨ s = 4 ∧ ¬ kK T L k = 17 ∨ s = 6) (hC : CI c T L k s 0 (p0 + R) z 0 0 th fi be wr I As) (hI : RQ v k 0 p0 I2) (hP : PR c v z R x qq As A2s) (hx : x R = p0) (h76 : A2s 76 v = nI z) (h81 : A2s 81 v = nI R) (h4 : 4 * R ≤ k) (hp : p0 + R ≤ k) (hr : RR v z th fi be A2) (hF : HA v z A2s A2) (hW : WQ T L k wr (I2 68 15) (I2 68 16)) :
    tlb n I2 A2 J2 t2 ∧ (XF c n L v ks T x1 I0 A0 Is As A2s J t (tlI n I2 A2 J2 t2) (tlA n I2 A2 J2 t2) ∨ XG c n L C v z ks T x1 I0 A0 Is As A2s J t qq (tlI n I2 A2 J2 t2) (tlA n I2 A2 J2 t2)) := by
  obtain ⟨-, -, -, -, -, -, -, -, -, -, -, -, -, -, -, -, -, -, hz⟩ := id hC
  have hk4 := (RT_k hT0 hk).1
  obtain ⟨r1, r2⟩ := tl_all (i15 := I2 68 15) (i16 := I2 68 16) (J2 := J2) (t2 := t2) (ks := k) (Is := I) (As := As) (A2s := A2s) (I0 := I0) (A0 := A0) (J := J) (t := t) (x1 := x1) hc hn hL hv hT0 hk (Nat.le_refl _) CR_refl hs hC hI (PR_c hP GA_refl (HA_G hF)) hx (by rw [hF.1 76 (by decide) (by decide) (by decide)]; exact h76) (by rw [hF.1 81 (by decide) (by decide) (by decide)]; exact h81) h4 hp hr (HA_S hz hF) rfl rfl
  refine ⟨r1, ?_⟩
  rcases r2 with r2 | ⟨k', R', x', I', A', h1, h2, h3, h5, h6, h7, h8, h9, h10, h11, h12, h13, h14⟩
  · exact Or.inl (XF_trans hCR (by omega) r2)
  · refine Or.inr ⟨wr, k', R', x', I', A', h1, by omega, CR_trans hCR h3, h5, h6, h7, h8, h9, h10, h11, h12, ?_⟩
    rw [h13, h14]
    rcases hW with y | ⟨y1, q, y2, y3⟩
    · exact Or.inl y
    · exact Or.inr ⟨y1, q, by omega, y3⟩
end Th
