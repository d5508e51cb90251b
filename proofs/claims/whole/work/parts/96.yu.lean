/-! texts that are alike as far as they go -/
section Tx
variable {T T' : Nat → Int32} {L : Nat}
theorem tx_run {P : Int32 → Bool} (h : ∀ j, j < L → T j = T' j) : ∀ (d i : Nat), i + d = L → tz_run P T L i = tz_run P T' L i
  | 0, i, e => by rw [tz_run_n (by omega), tz_run_n (by omega)]
  | d + 1, i, e => by
    have hi := h i (by omega)
    by_cases w : P (T i) = true
    · rw [tz_run_y (T := T) (i := i) (by omega) w, tz_run_y (T := T') (i := i) (by omega) (by rw [← hi]; exact w)]
      exact tx_run h d (i + 1) (by omega)
    · rw [tz_run_n (fun y => w y.2), tz_run_n (fun y => w (by rw [hi]; exact y.2))]
theorem tx_wm (h : ∀ j, j < L → T j = T' j) {p e k : Nat} (he : e ≤ L) : ∀ i, tz_wm T p e k i = tz_wm T' p e k i
  | 0 => rfl
  | i + 1 => by
    unfold tz_wm
    rw [tx_wm h he i]
    by_cases c : e ≤ p + i
    · rw [if_pos c, if_pos c]
    · rw [if_neg c, if_neg c, h (p + i) (by omega)]
theorem tx_fw (h : ∀ j, j < L → T j = T' j) {p e : Nat} (he : e ≤ L) : ∀ k, tz_fw T p e k = tz_fw T' p e k
  | 0 => rfl
  | k + 1 => by
    unfold tz_fw
    rw [tx_fw h he k, tx_wm h he 8]
theorem tx_vl (h : ∀ j, j < L → T j = T' j) {p : Nat} : ∀ k, p + k ≤ L → tz_vl T p k = tz_vl T' p k
  | 0, _ => rfl
  | k + 1, hk => by
    unfold tz_vl
    rw [tx_vl h k (by omega), h (p + k) (by omega)]
theorem tx_eq (h : ∀ j, j < L → T j = T' j) {p : Nat} : tz_eq T L p = tz_eq T' L p := by
  unfold tz_eq
  by_cases c : p + 1 < L
  · rw [h (p + 1) c]
  · rw [decide_eq_false (fun y => c y.1), decide_eq_false (fun y => c y.1)]
theorem tx_k (h : ∀ j, j < L → T j = T' j) {i : Nat} (hi : i ≤ L) : tz_p T L i = tz_p T' L i ∧ tz_k T L i = tz_k T' L i ∧ tz_v T L i = tz_v T' L i ∧ tz_j T L i = tz_j T' L i := by
  have ep : tz_p T L i = tz_p T' L i := tx_run h (L - i) i (by omega)
  unfold tz_k tz_v tz_j
  rw [ep]
  refine ⟨rfl, ?_⟩
  by_cases c : L ≤ tz_p T' L i
  · refine ⟨?_, ?_, ?_⟩ <;> rw [if_pos c, if_pos c]
  · have e1 := h (tz_p T' L i) (by omega)
    have e2 : tz_run tz_le T L (tz_p T' L i) = tz_run tz_le T' L (tz_p T' L i) := tx_run h (L - tz_p T' L i) _ (by omega)
    have e3 : tz_run tz_di T L (tz_p T' L i) = tz_run tz_di T' L (tz_p T' L i) := tx_run h (L - tz_p T' L i) _ (by omega)
    have b2 := tz_run_b (P := tz_le) (T := T') (L := L) (L - tz_p T' L i) (tz_p T' L i) (by omega)
    have b3 := tz_run_b (P := tz_di) (T := T') (L := L) (L - tz_p T' L i) (tz_p T' L i) (by omega)
    have e4 : tz_wk T (tz_p T' L i) (tz_run tz_le T' L (tz_p T' L i)) = tz_wk T' (tz_p T' L i) (tz_run tz_le T' L (tz_p T' L i)) := by
      unfold tz_wk
      rw [tx_fw h b2.2.1 15]
    have e5 : tz_vl T (tz_p T' L i) (tz_run tz_di T' L (tz_p T' L i) - tz_p T' L i) = tz_vl T' (tz_p T' L i) (tz_run tz_di T' L (tz_p T' L i) - tz_p T' L i) := tx_vl h _ (by omega)
    rw [e1, e2, e3, e4, e5, tx_eq h]
    exact ⟨rfl, rfl, rfl⟩
theorem tx_s (h : ∀ j, j < L → T j = T' j) : ∀ k, cz_s T L k = cz_s T' L k
  | 0 => rfl
  | k + 1 => by
    show tz_j T L (cz_s T L k) = tz_j T' L (cz_s T' L k)
    rw [(tx_k h (ks_le k)).2.2.2, tx_s h k]
theorem tx_K (h : ∀ j, j < L → T j = T' j) (k : Nat) : kK T L k = kK T' L k ∧ kP T L k = kP T' L k ∧ kV T L k = kV T' L k := by
  have e := tx_k h (ks_le (T := T) (L := L) k)
  unfold kK kP kV
  rw [e.1, e.2.1, e.2.2.1, tx_s h k]
  exact ⟨rfl, rfl, rfl⟩
theorem RT_T (h : ∀ j, j < L → T j = T' j) {C : Nat} {A : Nat → Nat → Int32} (H : RT T' L C A) : RT T L C A := by
  obtain ⟨h1, h2, h3, h4⟩ := H
  refine ⟨h1, fun q hq => ?_, fun q hq => ?_, ?_⟩
  · have e := tx_K h q
    have r := h2 q hq
    have e1 : tz_k T L (cz_s T L q) = tz_k T' L (cz_s T' L q) := e.1
    have e2 : tz_p T L (cz_s T L q) = tz_p T' L (cz_s T' L q) := e.2.1
    have e3 : tz_v T L (cz_s T L q) = tz_v T' L (cz_s T' L q) := e.2.2
    rw [e1, e2, e3]
    exact r
  · rw [(tx_K h q).1]; exact h3 q hq
  · rw [(tx_K h (C - 1)).1]; exact h4
end Tx
theorem by_id {x : Int32} (h : -128 ≤ x.toInt ∧ x.toInt ≤ 127) : x.toInt8.toInt32 = x := by
  rw [tI_eq, Int8.toInt_toInt32, Int32.toInt_toInt8]
  exact Int.bmod_eq_of_le (by omega) (by omega)
/-! the reference's copy of the tape -/
theorem rd_cp {n m : Nat} {I A : Nat → Nat → Int32} {J : Nat → Nat → Int64} {t : Bool × Bool} (hm : m ≤ 2000) (h2 : I 68 2 = nI m) : ∀ (d i f : Nat) (A10 : Nat → Nat → Int32), i + d = m → d < f → A10 69 = A 69 → (∀ j, j < i → A10 70 j = (A 69 j).toInt8.toInt32) → lb_X12_read_68_10 n I A J t f A10 (nI i) ∧ ∀ j, j < m → (lp_X12_read_68_10 n I A J t f A10 (nI i)).1 70 j = (A 69 j).toInt8.toInt32 := by
  have e4 : qI5_X12_read_68 n I A J t 68 4 = nI m := by
    unfold qI5_X12_read_68
    rw [cu_s]; exact h2
  intro d
  induction d with
  | zero =>
    intro i f A10 hi hf h69 h70
    obtain ⟨f, rfl⟩ : ∃ g, f = g + 1 := ⟨f - 1, by omega⟩
    have c : nI m ≤ nI i := nI_le (by omega) (by omega)
    unfold lb_X12_read_68_10 lp_X12_read_68_10
    rw [e4, if_pos c]
    exact ⟨fun y => absurd c y, fun j hj => h70 j (by omega)⟩
  | succ d ih =>
    intro i f A10 hi hf h69 h70
    obtain ⟨f, rfl⟩ : ∃ g, f = g + 1 := ⟨f - 1, by omega⟩
    have c : ¬ nI m ≤ nI i := nI_ge (by omega) (by omega)
    have e30 : q30_X12_read_68 n I A J t A10 (nI i) = nI (i + 1) := nI_1 i
    have e29 : qA29_X12_read_68 n I A J t A10 (nI i) = cw_u A10 70 i (A 69 i).toInt8.toInt32 := by
      unfold qA29_X12_read_68
      rw [nI_clamp (by omega), h69]
    unfold lb_X12_read_68_10 lp_X12_read_68_10
    rw [e4, if_neg c, e29, e30]
    have r := ih (i + 1) f (cw_u A10 70 i (A 69 i).toInt8.toInt32) (by omega) (by omega) (by rw [cw_u_c _ _ (by decide)]; exact h69) (fun j hj => by
      by_cases q : j = i
      · subst q; rw [cu_s]
      · rw [cu_n (by omega)]; exact h70 j (by omega))
    have vi : vp_in (nI i) 2000 := vp_in_nI (by omega) (by decide)
    exact ⟨fun _ => ⟨vi, vi, r.1⟩, r.2⟩
/-! reading: rule by rule -/
/-- both are through, without a fault -/
def XZ (c n L v : Nat) (T : Nat → Int32) (x1 : Int32) (I0 A0 Is As A2s : Nat → Nat → Int32) (J : Nat → Nat → Int64) (t : Bool × Bool) (I2 A2 : Nat → Nat → Int32) : Prop := ∃ k z R x qq wr A I', CE c n I0 A0 J t x1 0 Is As (nI 0) I' A ∧ I' 33 10 = wr ∧ I' c 8 = nI z ∧ z ≤ 20 ∧ PR c v z R x qq A A2 ∧ qq z = R ∧ R ≤ 200 ∧ x R + R ≤ 400 ∧ A2 76 v = nI z ∧ I2 68 13 = 0 ∧ WQ T L k wr (I2 68 15) (I2 68 16) ∧ FS v A2s A2
theorem rd_lp {c n L C v : Nat} {T : Nat → Int32} {x1 : Int32} {I0 A0 Is As A2s Ix Ax : Nat → Nat → Int32} {J Jx : Nat → Nat → Int64} {t tx : Bool × Bool} (hc : c = 37 ∨ c = 60) (hn : 2100 ≤ n) (hL : L ≤ 2000) (hv : v < 2) (hT0 : RT T L C A2s) : ∀ (N f k z R : Nat) (x qq : Nat → Nat) (wr : Int32) (I A I2 A2 : Nat → Nat → Int32), k + N = 401 → N < f → k < C → CR c n I0 A0 J t x1 0 Is As k I A → C0 c T L k (x R + R) z wr I A → RQ v k 0 (x R) I2 → PR c v z R x qq A A2 → qq z = R → A2 76 v = nI z → A2 81 v = nI R → 4 * R ≤ k → x R + R ≤ k → FS v A2s A2 → WQ T L k wr (I2 68 15) (I2 68 16) →
    lb_X12_read_68_120 n Ix Ax Jx tx f I2 A2 ∧ (XF c n L v 0 T x1 I0 A0 Is As A2s J t (lp_X12_read_68_120 n Ix Ax Jx tx f I2 A2).1 (lp_X12_read_68_120 n Ix Ax Jx tx f I2 A2).2 ∨ XZ c n L v T x1 I0 A0 Is As A2s J t (lp_X12_read_68_120 n Ix Ax Jx tx f I2 A2).1 (lp_X12_read_68_120 n Ix Ax Jx tx f I2 A2).2) := by
  intro N
  induction N using Nat.strongRecOn with
  | _ N ih =>
  intro f k z R x qq wr I A I2 A2 hN hf hk hCR hC hI hP hq h76 h81 h4 hp hF hW
  obtain ⟨f, rfl⟩ : ∃ g, f = g + 1 := ⟨f - 1, by omega⟩
  have hT : RT T L C A2 := RT_c hT0 (hF.1 71 (by decide)) (hF.1 72 (by decide)) (hF.1 73 (by decide))
  have hk4 := (RT_k hT hk).1
  have o1 : ¬ (1 : Int32) = 0 := by decide
  obtain ⟨-, -, -, -, -, -, -, -, hz⟩ := id hC
  have i0 := rq_is (n := n) (J := (pJ_X12_cut_68 n (qI38_X12_read_68 n Ix Ax Jx tx) (qAw10_X12_read_68 n Ix Ax Jx tx) Jx tx)) (t := tx) hT hk hI (μ := 0) (by decide) (by decide) (x := 0) rfl
  by_cases hK : kK T L k = 0
  · rw [if_pos hK] at i0
    have nz : ¬ px_X12_is_68 n I2 A2 (pJ_X12_cut_68 n (qI38_X12_read_68 n Ix Ax Jx tx) (qAw10_X12_read_68 n Ix Ax Jx tx) Jx tx) tx 0 = 0 := by rw [i0.2]; exact o1
    have elp : lp_X12_read_68_120 n Ix Ax Jx tx (f + 1) I2 A2 = (I2, A2) := by
      rw [lp_X12_read_68_120]
      rw [if_pos hI.1, if_neg nz]
    rw [elp]
    obtain ⟨I', g1, g2, g3, g4⟩ := cl_stop0 (fa := 0) (I0 := I0) (A0 := A0) (J := J) (t := t) (x1 := x1) hc hn hL hk4 hC (by
      unfold FZ
      rw [if_pos hK]) (Or.inr (Or.inr ⟨rfl, hK⟩))
    refine ⟨?_, Or.inr ⟨k, z, R, x, qq, wr, A, I', CE_trans hCR (by omega) g1, g3, g4, hz, hP, hq, by omega, by omega, h76, hI.1, hW, hF⟩⟩
    unfold lb_X12_read_68_120
    exact fun _ => ⟨i0.1, fun y => absurd y nz⟩
  · rw [if_neg hK] at i0
    have elp : lp_X12_read_68_120 n Ix Ax Jx tx (f + 1) I2 A2 = lp_X12_read_68_120 n Ix Ax Jx tx f (pI_X12_tellRule_68 n I2 A2 (pJ_X12_cut_68 n (qI38_X12_read_68 n Ix Ax Jx tx) (qAw10_X12_read_68 n Ix Ax Jx tx) Jx tx) tx) (pA_X12_tellRule_68 n I2 A2 (pJ_X12_cut_68 n (qI38_X12_read_68 n Ix Ax Jx tx) (qAw10_X12_read_68 n Ix Ax Jx tx) Jx tx) tx) := by
      rw [lp_X12_read_68_120]
      rw [if_pos hI.1, if_pos i0.2]
    rw [elp]
    obtain ⟨r1, r2⟩ := tr_all (J2 := (pJ_X12_cut_68 n (qI38_X12_read_68 n Ix Ax Jx tx) (qAw10_X12_read_68 n Ix Ax Jx tx) Jx tx)) (t2 := tx) (I0 := I0) (A0 := A0) (J := J) (t := t) (x1 := x1) hc hn hL hv hT hk hC hI hP rfl h76 h81 h4 hp hW hK
    have tl : lb_X12_read_68_120 n Ix Ax Jx tx f (pI_X12_tellRule_68 n I2 A2 (pJ_X12_cut_68 n (qI38_X12_read_68 n Ix Ax Jx tx) (qAw10_X12_read_68 n Ix Ax Jx tx) Jx tx) tx) (pA_X12_tellRule_68 n I2 A2 (pJ_X12_cut_68 n (qI38_X12_read_68 n Ix Ax Jx tx) (qAw10_X12_read_68 n Ix Ax Jx tx) Jx tx) tx) ∧ (XF c n L v 0 T x1 I0 A0 Is As A2s J t (lp_X12_read_68_120 n Ix Ax Jx tx f (pI_X12_tellRule_68 n I2 A2 (pJ_X12_cut_68 n (qI38_X12_read_68 n Ix Ax Jx tx) (qAw10_X12_read_68 n Ix Ax Jx tx) Jx tx) tx) (pA_X12_tellRule_68 n I2 A2 (pJ_X12_cut_68 n (qI38_X12_read_68 n Ix Ax Jx tx) (qAw10_X12_read_68 n Ix Ax Jx tx) Jx tx) tx)).1 (lp_X12_read_68_120 n Ix Ax Jx tx f (pI_X12_tellRule_68 n I2 A2 (pJ_X12_cut_68 n (qI38_X12_read_68 n Ix Ax Jx tx) (qAw10_X12_read_68 n Ix Ax Jx tx) Jx tx) tx) (pA_X12_tellRule_68 n I2 A2 (pJ_X12_cut_68 n (qI38_X12_read_68 n Ix Ax Jx tx) (qAw10_X12_read_68 n Ix Ax Jx tx) Jx tx) tx)).2 ∨ XZ c n L v T x1 I0 A0 Is As A2s J t (lp_X12_read_68_120 n Ix Ax Jx tx f (pI_X12_tellRule_68 n I2 A2 (pJ_X12_cut_68 n (qI38_X12_read_68 n Ix Ax Jx tx) (qAw10_X12_read_68 n Ix Ax Jx tx) Jx tx) tx) (pA_X12_tellRule_68 n I2 A2 (pJ_X12_cut_68 n (qI38_X12_read_68 n Ix Ax Jx tx) (qAw10_X12_read_68 n Ix Ax Jx tx) Jx tx) tx)).1 (lp_X12_read_68_120 n Ix Ax Jx tx f (pI_X12_tellRule_68 n I2 A2 (pJ_X12_cut_68 n (qI38_X12_read_68 n Ix Ax Jx tx) (qAw10_X12_read_68 n Ix Ax Jx tx) Jx tx) tx) (pA_X12_tellRule_68 n I2 A2 (pJ_X12_cut_68 n (qI38_X12_read_68 n Ix Ax Jx tx) (qAw10_X12_read_68 n Ix Ax Jx tx) Jx tx) tx)).2) := by
      rcases r2 with ⟨fa, q, I', A', h1, h2, h3, h5⟩ | ⟨wr', k', R', x', I', A', g1, g2, g3, g4, g5, g6, g7, g8, g9, g10, g11, g12⟩
      · have zf := Mq_p h1
        obtain ⟨f, rfl⟩ : ∃ g, f = g + 1 := ⟨f - 1, by omega⟩
        have elp2 : lp_X12_read_68_120 n Ix Ax Jx tx (f + 1) (pI_X12_tellRule_68 n I2 A2 (pJ_X12_cut_68 n (qI38_X12_read_68 n Ix Ax Jx tx) (qAw10_X12_read_68 n Ix Ax Jx tx) Jx tx) tx) (pA_X12_tellRule_68 n I2 A2 (pJ_X12_cut_68 n (qI38_X12_read_68 n Ix Ax Jx tx) (qAw10_X12_read_68 n Ix Ax Jx tx) Jx tx) tx) = (pI_X12_tellRule_68 n I2 A2 (pJ_X12_cut_68 n (qI38_X12_read_68 n Ix Ax Jx tx) (qAw10_X12_read_68 n Ix Ax Jx tx) Jx tx) tx, pA_X12_tellRule_68 n I2 A2 (pJ_X12_cut_68 n (qI38_X12_read_68 n Ix Ax Jx tx) (qAw10_X12_read_68 n Ix Ax Jx tx) Jx tx) tx) := by
          rw [lp_X12_read_68_120]
          rw [if_neg zf.2]
        rw [elp2]
        refine ⟨?_, Or.inl ⟨fa, q, I', A', h1, CE_trans hCR (by omega) h2, h3, FS_trans hF h5⟩⟩
        unfold lb_X12_read_68_120
        exact fun y => absurd y zf.2
      · have hk'4 := (RT_k hT g1).1
        exact ih (401 - k') (by omega) f k' (z + 1) R' x' (up qq (z + 1) R') wr' I' A' _ _ (by omega) (by omega) g1 (CR_trans hCR g3) g4 g5 g6 up_s g7 g8 g9 g10 (FS_trans hF g11) g12
    refine ⟨?_, tl.2⟩
    unfold lb_X12_read_68_120
    exact fun _ => ⟨i0.1, fun _ => ⟨r1, tl.1⟩⟩
