/-! the class's parser: what stands ahead of a token, and one step -/
def kK (T : Nat → Int32) (L k : Nat) : Nat := tz_k T L (cz_s T L k)
def kV (T : Nat → Int32) (L k : Nat) : Int32 := tz_v T L (cz_s T L k)
def kP (T : Nat → Int32) (L k : Nat) : Nat := tz_p T L (cz_s T L k)
theorem kK_le {T : Nat → Int32} {L k : Nat} : kK T L k ≤ 27 := kk_le
theorem kP_le {T : Nat → Int32} {L k : Nat} : kP T L k ≤ L := ks_p
/-- the state behind a token; 99: none -/
def sB (s d r κ : Nat) : Nat := if s = 0 then (if κ = 13 ∨ κ = 14 then 1 else 99) else if s = 1 then (if κ = 15 then 2 else 99) else if s = 2 then (if κ = 16 then 3 else if κ = 17 then 5 else if κ = 18 then 7 else if κ = 3 then 0 else 99) else if s = 3 then (if κ = 2 then 4 else 99) else if s = 4 then (if κ = 17 then 5 else if κ = 18 then 7 else if κ = 3 then 0 else 99) else if s = 5 then (if κ = 2 then 6 else 99) else if s = 6 then (if κ = 18 then 7 else if κ = 3 then 0 else 99) else if s = 7 then (if κ = 11 then 7 else if κ = 2 ∨ 20 ≤ κ then 8 else 99) else (if κ = 4 ∨ κ = 5 ∨ κ = 6 then 7 else if d = 0 then (if r = 0 then (if 7 ≤ κ ∧ κ ≤ 10 then 7 else 99) else if κ = 19 then 7 else if κ = 3 then 0 else 99) else if κ = 12 then 8 else 99)
def sX (m : Nat) : Int32 := if m = 99 then -1 else nI m
def FO (m d κ k : Nat) : Nat := if κ = 0 then 1 else if m = 99 then 1 else if 400 ≤ k then 2 else if κ = 11 ∧ 6 ≤ d then 2 else 0
def FZ (z κ k : Nat) : Nat := if κ = 0 then 0 else if κ = 13 ∨ κ = 14 then (if 400 ≤ k then 2 else if 20 ≤ z then 2 else 0) else 1
theorem sB_r : ∀ s, s ≤ 8 → ∀ d, d ≤ 1 → ∀ r, r ≤ 1 → ∀ κ, κ ≤ 27 → sB s d r κ ≤ 8 ∨ sB s d r κ = 99 := by decide +kernel
theorem sB_d {s d r κ : Nat} : sB s d r κ = sB s (if d = 0 then 0 else 1) r κ := by
  unfold sB
  by_cases h : d = 0
  · subst h; rfl
  · simp [h]
theorem sB_e0 : ∀ s, s ≤ 8 → ∀ d, d ≤ 1 → ∀ r, r ≤ 1 → sB s d r 0 = 99 := by decide +kernel
theorem sB_e11 : ∀ s, s ≤ 8 → ¬ s = 7 → ∀ d, d ≤ 1 → ∀ r, r ≤ 1 → sB s d r 11 = 99 := by decide +kernel
theorem sB_0 {s d r : Nat} (hs : s ≤ 8) (hr : r ≤ 1) : sB s d r 0 = 99 := by
  rw [sB_d]
  refine sB_e0 s hs _ ?_ r hr
  split <;> omega
theorem sB_11 {s d r : Nat} (hs : s ≤ 8) (h7 : ¬ s = 7) (hr : r ≤ 1) : sB s d r 11 = 99 := by
  rw [sB_d]
  refine sB_e11 s hs h7 _ ?_ r hr
  split <;> omega
theorem FO_0 {m d κ k : Nat} (h0 : ¬ κ = 0) (hm : ¬ m = 99) (hk : k < 400) (h : κ = 11 → d < 6) : FO m d κ k = 0 := by
  unfold FO
  rw [if_neg h0, if_neg hm, if_neg (by omega), if_neg (by omega)]
theorem irl_n : ∀ κ, κ ≤ 27 → ∀ r, r ≤ 1 → (if nI r = 0 then (if irl (nI κ) = 0 then 0 else 1) else 1 : Int32) = nI (if r = 0 then (if 7 ≤ κ ∧ κ ≤ 10 then 1 else 0) else 1) := by decide +kernel
/-- j signs come off the pile of those that wait -/
def RJ (A : Nat → Nat → Int32) (x : Int32) (w j : Nat) : Prop := j ≤ w ∧ (∀ i, i < j → ¬ rkk (A 36 (w - 1 - i)) < lea x) ∧ (j = w ∨ rkk (A 36 (w - 1 - j)) < lea x)
theorem sbq_0 : ∀ κ, κ ≤ 27 → (if nI κ = 13 then 1 else if nI κ = 14 then 1 else -1 : Int32) = sX (if κ = 13 ∨ κ = 14 then 1 else 99) := by decide +kernel
theorem sbq_1 : ∀ κ, κ ≤ 27 → (if nI κ = 15 then 2 else -1 : Int32) = sX (if κ = 15 then 2 else 99) := by decide +kernel
theorem sbq_2 : ∀ κ, κ ≤ 27 → (if nI κ = 16 then 3 else if nI κ = 17 then 5 else if nI κ = 18 then 7 else if nI κ = 3 then 0 else -1 : Int32) = sX (if κ = 16 then 3 else if κ = 17 then 5 else if κ = 18 then 7 else if κ = 3 then 0 else 99) := by decide +kernel
theorem sbq_3 : ∀ κ, κ ≤ 27 → (if nI κ = 2 then 4 else -1 : Int32) = sX (if κ = 2 then 4 else 99) := by decide +kernel
theorem sbq_4 : ∀ κ, κ ≤ 27 → (if nI κ = 17 then 5 else if nI κ = 18 then 7 else if nI κ = 3 then 0 else -1 : Int32) = sX (if κ = 17 then 5 else if κ = 18 then 7 else if κ = 3 then 0 else 99) := by decide +kernel
theorem sbq_5 : ∀ κ, κ ≤ 27 → (if nI κ = 2 then 6 else -1 : Int32) = sX (if κ = 2 then 6 else 99) := by decide +kernel
theorem sbq_6 : ∀ κ, κ ≤ 27 → (if nI κ = 18 then 7 else if nI κ = 3 then 0 else -1 : Int32) = sX (if κ = 18 then 7 else if κ = 3 then 0 else 99) := by decide +kernel
theorem sbq_7 : ∀ κ, κ ≤ 27 → (if nI κ = 11 then 7 else if nI κ = 2 then 8 else if nI κ < 20 then -1 else 8 : Int32) = sX (if κ = 11 then 7 else if κ = 2 ∨ 20 ≤ κ then 8 else 99) := by decide +kernel
theorem sbq_8 : ∀ κ, κ ≤ 27 → ∀ d, d ≤ 6 → ∀ r, r ≤ 1 → (if nI κ = 4 then 7 else if nI κ = 5 then 7 else if nI κ = 6 then 7 else if nI d ≤ 0 then (if nI r = 0 then (if (if nI κ < 7 then (0 : Int32) else if 10 < nI κ then 0 else 1) = 0 then -1 else 7) else if nI κ = 19 then 7 else if nI κ = 3 then 0 else -1) else if nI κ = 12 then 8 else -1 : Int32) = sX (if κ = 4 ∨ κ = 5 ∨ κ = 6 then 7 else if d = 0 then (if r = 0 then (if 7 ≤ κ ∧ κ ≤ 10 then 7 else 99) else if κ = 19 then 7 else if κ = 3 then 0 else 99) else if κ = 12 then 8 else 99) := by decide +kernel
theorem sb_all {n : Nat} {I A : Nat → Nat → Int32} {J : Nat → Nat → Int64} {t : Bool × Bool} {s d r κ : Nat} (hs : s ≤ 8) (hκ : κ ≤ 27) (hd : d ≤ 6) (hr : r ≤ 1) (h4 : I 33 4 = nI s) (h5 : I 33 5 = nI d) (h6 : I 33 6 = nI r) : px_X4_stateBehind_33 n I A J t (nI κ) = sX (sB s d r κ) := by
  have c : s = 0 ∨ s = 1 ∨ s = 2 ∨ s = 3 ∨ s = 4 ∨ s = 5 ∨ s = 6 ∨ s = 7 ∨ s = 8 := by omega
  unfold sB
  rcases c with c | c | c | c | c | c | c | c | c
  · subst c
    rw [sb_0 h4]
    rw [if_pos rfl]
    exact sbq_0 κ hκ
  · subst c
    rw [sb_1 h4]
    rw [if_neg (show ¬ (1 : Nat) = 0 by decide), if_pos rfl]
    exact sbq_1 κ hκ
  · subst c
    rw [sb_2 h4]
    rw [if_neg (show ¬ (2 : Nat) = 0 by decide), if_neg (show ¬ (2 : Nat) = 1 by decide), if_pos rfl]
    exact sbq_2 κ hκ
  · subst c
    rw [sb_3 h4]
    rw [if_neg (show ¬ (3 : Nat) = 0 by decide), if_neg (show ¬ (3 : Nat) = 1 by decide), if_neg (show ¬ (3 : Nat) = 2 by decide), if_pos rfl]
    exact sbq_3 κ hκ
  · subst c
    rw [sb_4 h4]
    rw [if_neg (show ¬ (4 : Nat) = 0 by decide), if_neg (show ¬ (4 : Nat) = 1 by decide), if_neg (show ¬ (4 : Nat) = 2 by decide), if_neg (show ¬ (4 : Nat) = 3 by decide), if_pos rfl]
    exact sbq_4 κ hκ
  · subst c
    rw [sb_5 h4]
    rw [if_neg (show ¬ (5 : Nat) = 0 by decide), if_neg (show ¬ (5 : Nat) = 1 by decide), if_neg (show ¬ (5 : Nat) = 2 by decide), if_neg (show ¬ (5 : Nat) = 3 by decide), if_neg (show ¬ (5 : Nat) = 4 by decide), if_pos rfl]
    exact sbq_5 κ hκ
  · subst c
    rw [sb_6 h4]
    rw [if_neg (show ¬ (6 : Nat) = 0 by decide), if_neg (show ¬ (6 : Nat) = 1 by decide), if_neg (show ¬ (6 : Nat) = 2 by decide), if_neg (show ¬ (6 : Nat) = 3 by decide), if_neg (show ¬ (6 : Nat) = 4 by decide), if_neg (show ¬ (6 : Nat) = 5 by decide), if_pos rfl]
    exact sbq_6 κ hκ
  · subst c
    rw [sb_7 h4]
    rw [if_neg (show ¬ (7 : Nat) = 0 by decide), if_neg (show ¬ (7 : Nat) = 1 by decide), if_neg (show ¬ (7 : Nat) = 2 by decide), if_neg (show ¬ (7 : Nat) = 3 by decide), if_neg (show ¬ (7 : Nat) = 4 by decide), if_neg (show ¬ (7 : Nat) = 5 by decide), if_neg (show ¬ (7 : Nat) = 6 by decide), if_pos rfl]
    exact sbq_7 κ hκ
  · subst c
    rw [sb_8 h4, h5, h6]
    rw [if_neg (show ¬ (8 : Nat) = 0 by decide), if_neg (show ¬ (8 : Nat) = 1 by decide), if_neg (show ¬ (8 : Nat) = 2 by decide), if_neg (show ¬ (8 : Nat) = 3 by decide), if_neg (show ¬ (8 : Nat) = 4 by decide), if_neg (show ¬ (8 : Nat) = 5 by decide), if_neg (show ¬ (8 : Nat) = 6 by decide), if_neg (show ¬ (8 : Nat) = 7 by decide)]
    exact sbq_8 κ hκ d hd r hr
/-- within a rule, ahead of token k -/
def CI (c : Nat) (T : Nat → Int32) (L k s w σ z d r : Nat) (th fi be wr : Int32) (I A : Nat → Nat → Int32) : Prop := A 32 = T ∧ I 34 1 = nI L ∧ I 34 2 = nI (cz_s T L k) ∧ I 33 4 = nI s ∧ I 33 3 = nI w ∧ I c 7 = nI σ ∧ I c 8 = nI z ∧ I 33 5 = nI d ∧ I 33 6 = nI r ∧ I 33 7 = th ∧ I 33 8 = fi ∧ I 33 9 = be ∧ I 33 10 = wr ∧ 1 ≤ s ∧ s ≤ 8 ∧ d ≤ 6 ∧ r ≤ 1 ∧ (th = 0 ∨ th = 1) ∧ z < 20
def CJ (c : Nat) (T : Nat → Int32) (L k s w σ z d r : Nat) (th fi be wr : Int32) (I A : Nat → Nat → Int32) : Prop := A 32 = T ∧ I 34 1 = nI L ∧ I 34 2 = nI (cz_s T L (k + 1)) ∧ I 34 3 = nI (kK T L k) ∧ I 34 4 = nI (kP T L k) ∧ I 34 5 = kV T L k ∧ I 33 4 = nI s ∧ I 33 3 = nI w ∧ I c 7 = nI σ ∧ I c 8 = nI z ∧ I 33 5 = nI d ∧ I 33 6 = nI r ∧ I 33 7 = th ∧ I 33 8 = fi ∧ I 33 9 = be ∧ I 33 10 = wr ∧ 1 ≤ s ∧ s ≤ 8 ∧ d ≤ 6 ∧ r ≤ 1 ∧ (th = 0 ∨ th = 1) ∧ z < 20
/-- between rules, ahead of token k -/
def C0 (c : Nat) (T : Nat → Int32) (L k σ z : Nat) (wr : Int32) (I A : Nat → Nat → Int32) : Prop := A 32 = T ∧ I 34 1 = nI L ∧ I 34 2 = nI (cz_s T L k) ∧ I 33 4 = nI 0 ∧ I 33 3 = nI 0 ∧ I c 7 = nI σ ∧ I c 8 = nI z ∧ I 33 10 = wr ∧ z ≤ 20
def D0 (c : Nat) (T : Nat → Int32) (L k σ z : Nat) (wr : Int32) (I A : Nat → Nat → Int32) : Prop := A 32 = T ∧ I 34 1 = nI L ∧ I 34 2 = nI (cz_s T L (k + 1)) ∧ I 34 3 = nI (kK T L k) ∧ I 34 4 = nI (kP T L k) ∧ I 34 5 = kV T L k ∧ I 33 4 = nI 0 ∧ I 33 3 = nI 0 ∧ I c 7 = nI σ ∧ I c 8 = nI z ∧ I 33 10 = wr ∧ z ≤ 20
section Cl
variable {c n L k s w σ z d r : Nat} {T : Nat → Int32} {th fi be wr x1 : Int32} {I A I0 A0 : Nat → Nat → Int32} {J : Nat → Nat → Int64} {t : Bool × Bool}
theorem cl_adv (hn : 2100 ≤ n) (hL : L ≤ 2000) (h32 : A 32 = T) (h1 : I 34 1 = nI L) (h2 : I 34 2 = nI (cz_s T L k)) : pb_X7_advance_34_txT n I A J t ∧ pI_X7_advance_34_txT n I A J t 34 1 = nI L ∧ pI_X7_advance_34_txT n I A J t 34 2 = nI (cz_s T L (k + 1)) ∧ pI_X7_advance_34_txT n I A J t 34 3 = nI (kK T L k) ∧ pI_X7_advance_34_txT n I A J t 34 4 = nI (kP T L k) ∧ pI_X7_advance_34_txT n I A J t 34 5 = kV T L k ∧ ∀ a b, ¬ a = 34 → pI_X7_advance_34_txT n I A J t a b = I a b := by
  subst h32
  obtain ⟨r1, r2, r3, r4, r5, r6⟩ := sn_advance (n := n) (I := I) (A := A) (J := J) (t := t) hn hL (ks_le k) h1 h2
  refine ⟨r1, r6, r2, r3, r4, r5, fun a b h => fr_pI_X7_advance_34_txT ?_⟩
  intro q
  simp at q
  omega
theorem cl_pre (hc : c = 37 ∨ c = 60) (hn : 2100 ≤ n) (hL : L ≤ 2000) (C : CI c T L k s w σ z d r th fi be wr I A) : pb_X7_advance_34_txT n I A J t ∧ CJ c T L k s w σ z d r th fi be wr (pI_X7_advance_34_txT n I A J t) A := by
  obtain ⟨h32, h1, h2, h4, h3, h7, h8, h5, h6, hth, hfi, hbe, hwr, b1, b2, b3, b4, b5, b6⟩ := C
  obtain ⟨e0, e1, e2, e3, e4, e5, ef⟩ := cl_adv (n := n) (J := J) (t := t) hn hL h32 h1 h2
  have hc4 : ¬ c = 34 := by omega
  exact ⟨e0, h32, e1, e2, e3, e4, e5, (ef _ _ (by decide)).trans h4, (ef _ _ (by decide)).trans h3, (ef _ _ hc4).trans h7, (ef _ _ hc4).trans h8, (ef _ _ (by decide)).trans h5, (ef _ _ (by decide)).trans h6, (ef _ _ (by decide)).trans hth, (ef _ _ (by decide)).trans hfi, (ef _ _ (by decide)).trans hbe, (ef _ _ (by decide)).trans hwr, b1, b2, b3, b4, b5, b6⟩
theorem cl_pre0 (hc : c = 37 ∨ c = 60) (hn : 2100 ≤ n) (hL : L ≤ 2000) (C : C0 c T L k σ z wr I A) : pb_X7_advance_34_txT n I A J t ∧ D0 c T L k σ z wr (pI_X7_advance_34_txT n I A J t) A := by
  obtain ⟨h32, h1, h2, h4, h3, h7, h8, hwr, b1⟩ := C
  obtain ⟨e0, e1, e2, e3, e4, e5, ef⟩ := cl_adv (n := n) (J := J) (t := t) hn hL h32 h1 h2
  have hc4 : ¬ c = 34 := by omega
  exact ⟨e0, h32, e1, e2, e3, e4, e5, (ef _ _ (by decide)).trans h4, (ef _ _ (by decide)).trans h3, (ef _ _ hc4).trans h7, (ef _ _ hc4).trans h8, (ef _ _ (by decide)).trans hwr, b1⟩
theorem sX_m {m : Nat} (h : m ≤ 8 ∨ m = 99) : (sX m = -1) = (m = 99) := by
  unfold sX
  rcases h with h | h
  · rw [if_neg (by omega)]
    refine propext ⟨fun y => ?_, fun y => by omega⟩
    have : ¬ nI m < 0 := nI_pos (by omega)
    rw [y] at this
    exact absurd (by decide) this
  · rw [if_pos h]; exact propext ⟨fun _ => h, fun _ => rfl⟩
theorem fo_n_37 (hk : k ≤ 400) (C : CJ 37 T L k s w σ z d r th fi be wr I A) : px_X4_faultOf_33_tFx n I A J (false, true) (nI (kK T L k)) (nI k) = nI (FO (sB s d r (kK T L k)) d (kK T L k) k) := by
  obtain ⟨h32, h1, h2, t3, t4, t5, h4, h3, h7, h8, h5, h6, hth, hfi, hbe, hwr, b1, b2, b3, b4, b5, b6⟩ := C
  have hκ := kK_le (T := T) (L := L) (k := k)
  have hm : sB s d r (kK T L k) ≤ 8 ∨ sB s d r (kK T L k) = 99 := by
    rw [sB_d]
    refine sB_r s b2 _ ?_ r b4 _ hκ
    split <;> omega
  have sb := sb_all (n := n) (A := A) (J := J) (t := (false, true)) b2 hκ b3 b4 h4 h5 h6
  rw [fo_37, sb]
  generalize kK T L k = κ at *
  generalize sB s d r κ = m at *
  have i0 : (nI κ = 0) = (κ = 0) := propext (nI_eq (b := 0) (by omega) (by omega))
  have i11 : (nI κ = 11) = (κ = 11) := propext (nI_eq (b := 11) (by omega) (by omega))
  have i4 : ((400 : Int32) ≤ nI k) = (400 ≤ k) := propext (nI_leI (a := 400) (by omega) (by omega))
  have i6 : (nI d < 6) = (d < 6) := propext (nI_ltI (b := 6) (by omega) (by omega))
  have is : (I 33 4 = 0) = False := eq_false (by rw [h4]; exact nI_ne0 (by omega) (by omega))
  have n0 : nI 0 = 0 := rfl
  have n1 : nI 1 = 1 := rfl
  have n2 : nI 2 = 2 := rfl
  have o1 : ¬ (1 : Int32) = 0 := by decide
  unfold FO
  simp only [i0, i11, i4, h5, i6, sX_m hm, is, if_false, if_true]
  clear sb i0 i11 i4 i6 is h4 h5 h6
  by_cases q1 : κ = 0
  · rw [if_pos q1, if_pos q1]; rfl
  rw [if_neg q1, if_neg q1]
  by_cases q2 : m = 99
  · rw [if_pos q2, if_pos q2]; rfl
  rw [if_neg q2, if_neg q2]
  by_cases q3 : 400 ≤ k
  · rw [if_pos q3, if_pos q3]; rfl
  rw [if_neg q3, if_neg q3]
  by_cases q4 : κ = 11
  · by_cases q5 : d < 6
    · rw [if_pos q4, if_pos q5, if_neg (show ¬ (κ = 11 ∧ 6 ≤ d) by omega), if_pos rfl]; rfl
    · rw [if_pos q4, if_neg q5, if_pos (show κ = 11 ∧ 6 ≤ d by omega), if_neg o1]; rfl
  · rw [if_neg q4, if_neg (show ¬ (κ = 11 ∧ 6 ≤ d) by omega), if_pos rfl]; rfl
theorem fo0_n_37 (hk : k ≤ 400) (C : D0 37 T L k σ z wr I A) : px_X4_faultOf_33_tFx n I A J (false, true) (nI (kK T L k)) (nI k) = nI (FZ z (kK T L k) k) := by
  obtain ⟨h32, h1, h2, t3, t4, t5, h4, h3, h7, h8, hwr, b1⟩ := C
  have hκ := kK_le (T := T) (L := L) (k := k)
  have h40 : I 33 4 = 0 := h4
  rw [fo_37, sb_0 h40]
  generalize kK T L k = κ at *
  have i0 : (nI κ = 0) = (κ = 0) := propext (nI_eq (b := 0) (by omega) (by omega))
  have i11 : (nI κ = 11) = (κ = 11) := propext (nI_eq (b := 11) (by omega) (by omega))
  have i13 : (nI κ = 13) = (κ = 13) := propext (nI_eq (b := 13) (by omega) (by omega))
  have i14 : (nI κ = 14) = (κ = 14) := propext (nI_eq (b := 14) (by omega) (by omega))
  have i4 : ((400 : Int32) ≤ nI k) = (400 ≤ k) := propext (nI_leI (a := 400) (by omega) (by omega))
  have i8 : (nI z < 20) = (z < 20) := propext (nI_ltI (b := 20) (by omega) (by omega))
  have o1 : ¬ (1 : Int32) = 0 := by decide
  have o2 : ¬ (1 : Int32) = -1 := by decide
  unfold FZ
  simp only [i0, i11, i13, i14, i4, h40, h8, i8, if_true]
  clear i0 i11 i13 i14 i4 i8 h4 h40 h8
  by_cases q1 : κ = 0
  · rw [if_pos q1, if_pos q1]; rfl
  rw [if_neg q1, if_neg q1]
  by_cases q2 : κ = 13 ∨ κ = 14
  · have e : (if κ = 13 then (1 : Int32) else if κ = 14 then 1 else -1) = 1 := by
      rcases q2 with q | q
      · rw [if_pos q]
      · rw [if_neg (by omega), if_pos q]
    rw [e, if_neg o2, if_pos q2]
    by_cases q3 : 400 ≤ k
    · rw [if_pos q3, if_pos q3]; rfl
    rw [if_neg q3, if_neg q3]
    by_cases q4 : z < 20
    · rw [if_pos q4, if_neg (show ¬ 20 ≤ z by omega), if_pos rfl, if_neg (show ¬ κ = 11 by omega), if_pos rfl]; rfl
    · rw [if_neg q4, if_pos (show 20 ≤ z by omega), if_neg o1]; rfl
  · rw [if_neg (show ¬ κ = 13 by omega), if_neg (show ¬ κ = 14 by omega), if_pos rfl, if_neg q2]; rfl
theorem fo_n_60 (hk : k ≤ 400) (C : CJ 60 T L k s w σ z d r th fi be wr I A) : px_X4_faultOf_33_tTx n I A J (true, true) (nI (kK T L k)) (nI k) = nI (FO (sB s d r (kK T L k)) d (kK T L k) k) := by
  obtain ⟨h32, h1, h2, t3, t4, t5, h4, h3, h7, h8, h5, h6, hth, hfi, hbe, hwr, b1, b2, b3, b4, b5, b6⟩ := C
  have hκ := kK_le (T := T) (L := L) (k := k)
  have hm : sB s d r (kK T L k) ≤ 8 ∨ sB s d r (kK T L k) = 99 := by
    rw [sB_d]
    refine sB_r s b2 _ ?_ r b4 _ hκ
    split <;> omega
  have sb := sb_all (n := n) (A := A) (J := J) (t := (true, true)) b2 hκ b3 b4 h4 h5 h6
  rw [fo_60, sb]
  generalize kK T L k = κ at *
  generalize sB s d r κ = m at *
  have i0 : (nI κ = 0) = (κ = 0) := propext (nI_eq (b := 0) (by omega) (by omega))
  have i11 : (nI κ = 11) = (κ = 11) := propext (nI_eq (b := 11) (by omega) (by omega))
  have i4 : ((400 : Int32) ≤ nI k) = (400 ≤ k) := propext (nI_leI (a := 400) (by omega) (by omega))
  have i6 : (nI d < 6) = (d < 6) := propext (nI_ltI (b := 6) (by omega) (by omega))
  have is : (I 33 4 = 0) = False := eq_false (by rw [h4]; exact nI_ne0 (by omega) (by omega))
  have n0 : nI 0 = 0 := rfl
  have n1 : nI 1 = 1 := rfl
  have n2 : nI 2 = 2 := rfl
  have o1 : ¬ (1 : Int32) = 0 := by decide
  unfold FO
  simp only [i0, i11, i4, h5, i6, sX_m hm, is, if_false, if_true]
  clear sb i0 i11 i4 i6 is h4 h5 h6
  by_cases q1 : κ = 0
  · rw [if_pos q1, if_pos q1]; rfl
  rw [if_neg q1, if_neg q1]
  by_cases q2 : m = 99
  · rw [if_pos q2, if_pos q2]; rfl
  rw [if_neg q2, if_neg q2]
  by_cases q3 : 400 ≤ k
  · rw [if_pos q3, if_pos q3]; rfl
  rw [if_neg q3, if_neg q3]
  by_cases q4 : κ = 11
  · by_cases q5 : d < 6
    · rw [if_pos q4, if_pos q5, if_neg (show ¬ (κ = 11 ∧ 6 ≤ d) by omega), if_pos rfl]; rfl
    · rw [if_pos q4, if_neg q5, if_pos (show κ = 11 ∧ 6 ≤ d by omega), if_neg o1]; rfl
  · rw [if_neg q4, if_neg (show ¬ (κ = 11 ∧ 6 ≤ d) by omega), if_pos rfl]; rfl
theorem fo0_n_60 (hk : k ≤ 400) (C : D0 60 T L k σ z wr I A) : px_X4_faultOf_33_tTx n I A J (true, true) (nI (kK T L k)) (nI k) = nI (FZ z (kK T L k) k) := by
  obtain ⟨h32, h1, h2, t3, t4, t5, h4, h3, h7, h8, hwr, b1⟩ := C
  have hκ := kK_le (T := T) (L := L) (k := k)
  have h40 : I 33 4 = 0 := h4
  rw [fo_60, sb_0 h40]
  generalize kK T L k = κ at *
  have i0 : (nI κ = 0) = (κ = 0) := propext (nI_eq (b := 0) (by omega) (by omega))
  have i11 : (nI κ = 11) = (κ = 11) := propext (nI_eq (b := 11) (by omega) (by omega))
  have i13 : (nI κ = 13) = (κ = 13) := propext (nI_eq (b := 13) (by omega) (by omega))
  have i14 : (nI κ = 14) = (κ = 14) := propext (nI_eq (b := 14) (by omega) (by omega))
  have i4 : ((400 : Int32) ≤ nI k) = (400 ≤ k) := propext (nI_leI (a := 400) (by omega) (by omega))
  have i8 : (nI z < 20) = (z < 20) := propext (nI_ltI (b := 20) (by omega) (by omega))
  have o1 : ¬ (1 : Int32) = 0 := by decide
  have o2 : ¬ (1 : Int32) = -1 := by decide
  unfold FZ
  simp only [i0, i11, i13, i14, i4, h40, h8, i8, if_true]
  clear i0 i11 i13 i14 i4 i8 h4 h40 h8
  by_cases q1 : κ = 0
  · rw [if_pos q1, if_pos q1]; rfl
  rw [if_neg q1, if_neg q1]
  by_cases q2 : κ = 13 ∨ κ = 14
  · have e : (if κ = 13 then (1 : Int32) else if κ = 14 then 1 else -1) = 1 := by
      rcases q2 with q | q
      · rw [if_pos q]
      · rw [if_neg (by omega), if_pos q]
    rw [e, if_neg o2, if_pos q2]
    by_cases q3 : 400 ≤ k
    · rw [if_pos q3, if_pos q3]; rfl
    rw [if_neg q3, if_neg q3]
    by_cases q4 : z < 20
    · rw [if_pos q4, if_neg (show ¬ 20 ≤ z by omega), if_pos rfl, if_neg (show ¬ κ = 11 by omega), if_pos rfl]; rfl
    · rw [if_neg q4, if_pos (show 20 ≤ z by omega), if_neg o1]; rfl
  · rw [if_neg (show ¬ κ = 13 by omega), if_neg (show ¬ κ = 14 by omega), if_pos rfl, if_neg q2]; rfl
def CR (c n : Nat) (I0 A0 : Nat → Nat → Int32) (J : Nat → Nat → Int64) (t : Bool × Bool) (x1 : Int32) (k : Nat) (I A : Nat → Nat → Int32) (k' : Nat) (I' A' : Nat → Nat → Int32) : Prop := (c = 37 → cr_37 n I0 A0 J t x1 k I A k' I' A') ∧ (c = 60 → cr_60 n I0 A0 J t x1 k I A k' I' A')
def CE (c n : Nat) (I0 A0 : Nat → Nat → Int32) (J : Nat → Nat → Int64) (t : Bool × Bool) (x1 : Int32) (k : Nat) (I A : Nat → Nat → Int32) (fa : Int32) (I' A' : Nat → Nat → Int32) : Prop := (c = 37 → ce_37 n I0 A0 J t x1 k I A fa I' A') ∧ (c = 60 → ce_60 n I0 A0 J t x1 k I A fa I' A')
theorem CR_refl : CR c n I0 A0 J t x1 k I A k I A := ⟨fun _ => cr_refl_37, fun _ => cr_refl_60⟩
theorem CR_trans {k' k2 : Nat} {I' A' I2 A2 : Nat → Nat → Int32} (h : CR c n I0 A0 J t x1 k I A k' I' A') (g : CR c n I0 A0 J t x1 k' I' A' k2 I2 A2) : CR c n I0 A0 J t x1 k I A k2 I2 A2 := ⟨fun q => cr_trans_37 (h.1 q) (g.1 q), fun q => cr_trans_60 (h.2 q) (g.2 q)⟩
theorem CE_trans {k' : Nat} {I' A' I2 A2 : Nat → Nat → Int32} {fa : Int32} (h : CR c n I0 A0 J t x1 k I A k' I' A') (hk : k' ≤ 401) (g : CE c n I0 A0 J t x1 k' I' A' fa I2 A2) : CE c n I0 A0 J t x1 k I A fa I2 A2 := ⟨fun q => ce_trans_37 (h.1 q) hk (g.1 q), fun q => ce_trans_60 (h.2 q) hk (g.2 q)⟩
theorem cl_stop (hc : c = 37 ∨ c = 60) (hn : 2100 ≤ n) (hL : L ≤ 2000) (hk : k ≤ 400) (C : CI c T L k s w σ z d r th fi be wr I A) {fa : Nat} (h : FO (sB s d r (kK T L k)) d (kK T L k) k = fa) (h0 : fa = 1 ∨ fa = 2) : ∃ I', CE c n I0 A0 J t x1 k I A (nI fa) I' A ∧ I' 34 4 = nI (kP T L k) := by
  rcases hc with rfl | rfl
  · have q := cl_pre (J := J) (t := (false, true)) (Or.inl rfl) hn hL C
    have f := fo_n_37 (n := n) (J := J) hk q.2
    rw [h] at f
    have t4 : pI_X7_advance_34_txT n I A J (false, true) 34 4 = nI (kP T L k) := q.2.2.2.2.2.1
    have t3 : pI_X7_advance_34_txT n I A J (false, true) 34 3 = nI (kK T L k) := q.2.2.2.2.1
    exact ⟨_, ⟨fun _ => st_stop_37 hk rfl q.1 t3 f (Or.inl (by rcases h0 with e | e <;> rw [e] <;> decide)), fun h => absurd h (by decide)⟩, t4⟩
  · have q := cl_pre (J := J) (t := (true, true)) (Or.inr rfl) hn hL C
    have f := fo_n_60 (n := n) (J := J) hk q.2
    rw [h] at f
    have t4 : pI_X7_advance_34_txT n I A J (true, true) 34 4 = nI (kP T L k) := q.2.2.2.2.2.1
    have t3 : pI_X7_advance_34_txT n I A J (true, true) 34 3 = nI (kK T L k) := q.2.2.2.2.1
    exact ⟨_, ⟨fun h => absurd h (by decide), fun _ => st_stop_60 hk rfl q.1 t3 f (Or.inl (by rcases h0 with e | e <;> rw [e] <;> decide))⟩, t4⟩
theorem cl_stop0 (hc : c = 37 ∨ c = 60) (hn : 2100 ≤ n) (hL : L ≤ 2000) (hk : k ≤ 400) (C : C0 c T L k σ z wr I A) {fa : Nat} (h : FZ z (kK T L k) k = fa) (h0 : fa = 1 ∨ fa = 2 ∨ fa = 0 ∧ kK T L k = 0) : ∃ I', CE c n I0 A0 J t x1 k I A (nI fa) I' A ∧ I' 34 4 = nI (kP T L k) ∧ I' 33 10 = wr ∧ I' c 8 = nI z := by
  rcases hc with rfl | rfl
  · have q := cl_pre0 (J := J) (t := (false, true)) (Or.inl rfl) hn hL C
    have f := fo0_n_37 (n := n) (J := J) hk q.2
    rw [h] at f
    have t4 : pI_X7_advance_34_txT n I A J (false, true) 34 4 = nI (kP T L k) := q.2.2.2.2.2.1
    have t3 : pI_X7_advance_34_txT n I A J (false, true) 34 3 = nI (kK T L k) := q.2.2.2.2.1
    refine ⟨_, ⟨fun _ => st_stop_37 hk rfl q.1 t3 f ?_, fun h => absurd h (by decide)⟩, t4, ?_, ?_⟩
    · rcases h0 with e | e | e
      · rw [e]; exact Or.inl (by decide)
      · rw [e]; exact Or.inl (by decide)
      · rw [e.2]; exact Or.inr rfl
    · exact q.2.2.2.2.2.2.2.2.2.2.2.1
    · exact q.2.2.2.2.2.2.2.2.2.2.1
  · have q := cl_pre0 (J := J) (t := (true, true)) (Or.inr rfl) hn hL C
    have f := fo0_n_60 (n := n) (J := J) hk q.2
    rw [h] at f
    have t4 : pI_X7_advance_34_txT n I A J (true, true) 34 4 = nI (kP T L k) := q.2.2.2.2.2.1
    have t3 : pI_X7_advance_34_txT n I A J (true, true) 34 3 = nI (kK T L k) := q.2.2.2.2.1
    refine ⟨_, ⟨fun h => absurd h (by decide), fun _ => st_stop_60 hk rfl q.1 t3 f ?_⟩, t4, ?_, ?_⟩
    · rcases h0 with e | e | e
      · rw [e]; exact Or.inl (by decide)
      · rw [e]; exact Or.inl (by decide)
      · rw [e.2]; exact Or.inr rfl
    · exact q.2.2.2.2.2.2.2.2.2.2.2.1
    · exact q.2.2.2.2.2.2.2.2.2.2.1
theorem cl_go (hc : c = 37 ∨ c = 60) (hn : 2100 ≤ n) (hL : L ≤ 2000) (hk : k < 400) (C : CI c T L k s w σ z d r th fi be wr I A) {s' : Nat} (hs : s = 1 ∨ s = 2 ∨ s = 4 ∨ s = 6) (hB : sB s d r (kK T L k) = s') (hk3 : ¬ kK T L k = 3) (h9 : 1 ≤ s' ∧ s' ≤ 8) : ∃ I', CR c n I0 A0 J t x1 k I A (k + 1) I' A ∧ CI c T L (k + 1) s' w σ z d r th fi be wr I' A := by
  rcases hc with rfl | rfl
  · obtain ⟨ha, Q⟩ := cl_pre (n := n) (J := J) (t := (false, true)) (Or.inl rfl) hn hL C
    have f := fo_n_37 (n := n) (J := J) (Nat.le_of_lt hk) Q
    generalize hv : pI_X7_advance_34_txT n I A J (false, true) = Iv at *
    obtain ⟨h32, h1, h2, t3, t4, t5, h4, h3, h7, h8, h5, h6, hth, hfi, hbe, hwr, b1, b2, b3, b4, b5, b6⟩ := Q
    have hκ := kK_le (T := T) (L := L) (k := k)
    have sb := sb_all (n := n) (A := A) (J := J) (t := (false, true)) b2 hκ b3 b4 h4 h5 h6
    have k0 : ¬ kK T L k = 0 := fun y => by
      rw [y, sB_0 b2 b4] at hB
      omega
    have k11 : ¬ kK T L k = 11 := fun y => by
      rw [y, sB_11 b2 (by omega) b4] at hB
      omega
    rw [FO_0 k0 (by omega) hk (fun y => absurd y k11)] at f
    rw [hB] at sb
    have e9 : sX s' = nI s' := if_neg (by omega)
    rw [e9] at sb
    have k3 : ¬ nI (kK T L k) = 3 := fun y => hk3 ((nI_eq (b := 3) (by omega) (by omega)).1 y)
    have kz : nI (kK T L k) ≠ 0 := nI_ne0 (by omega) (by omega)
    have hs4 : Iv 33 4 = 1 ∨ Iv 33 4 = 2 ∨ Iv 33 4 = 4 ∨ Iv 33 4 = 6 := by
      rw [h4]
      rcases hs with e | e | e | e <;> subst e
      · exact Or.inl rfl
      · exact Or.inr (Or.inl rfl)
      · exact Or.inr (Or.inr (Or.inl rfl))
      · exact Or.inr (Or.inr (Or.inr rfl))
    obtain ⟨g1, g2, g3⟩ := tk_go_37 (t := (false, true)) hs4 k3 sb
    have st := st_go_37 (n := n) (I0 := I0) (A0 := A0) (J := J) (t := t) (x1 := x1) (Nat.le_of_lt hk) hv ha t3 kz f g1
    rw [g2, g3] at st
    refine ⟨_, ⟨fun _ => st, fun h => absurd h (by decide)⟩, h32, ((cu_n (by decide)).trans (h1)), ((cu_n (by decide)).trans (h2)), (cu_s), ((cu_n (by decide)).trans (h3)), ((cu_n (by decide)).trans (h7)), ((cu_n (by decide)).trans (h8)), ((cu_n (by decide)).trans (h5)), ((cu_n (by decide)).trans (h6)), ((cu_n (by decide)).trans (hth)), ((cu_n (by decide)).trans (hfi)), ((cu_n (by decide)).trans (hbe)), ((cu_n (by decide)).trans (hwr)), h9.1, h9.2, b3, b4, b5, b6⟩
  · obtain ⟨ha, Q⟩ := cl_pre (n := n) (J := J) (t := (true, true)) (Or.inr rfl) hn hL C
    have f := fo_n_60 (n := n) (J := J) (Nat.le_of_lt hk) Q
    generalize hv : pI_X7_advance_34_txT n I A J (true, true) = Iv at *
    obtain ⟨h32, h1, h2, t3, t4, t5, h4, h3, h7, h8, h5, h6, hth, hfi, hbe, hwr, b1, b2, b3, b4, b5, b6⟩ := Q
    have hκ := kK_le (T := T) (L := L) (k := k)
    have sb := sb_all (n := n) (A := A) (J := J) (t := (true, true)) b2 hκ b3 b4 h4 h5 h6
    have k0 : ¬ kK T L k = 0 := fun y => by
      rw [y, sB_0 b2 b4] at hB
      omega
    have k11 : ¬ kK T L k = 11 := fun y => by
      rw [y, sB_11 b2 (by omega) b4] at hB
      omega
    rw [FO_0 k0 (by omega) hk (fun y => absurd y k11)] at f
    rw [hB] at sb
    have e9 : sX s' = nI s' := if_neg (by omega)
    rw [e9] at sb
    have k3 : ¬ nI (kK T L k) = 3 := fun y => hk3 ((nI_eq (b := 3) (by omega) (by omega)).1 y)
    have kz : nI (kK T L k) ≠ 0 := nI_ne0 (by omega) (by omega)
    have hs4 : Iv 33 4 = 1 ∨ Iv 33 4 = 2 ∨ Iv 33 4 = 4 ∨ Iv 33 4 = 6 := by
      rw [h4]
      rcases hs with e | e | e | e <;> subst e
      · exact Or.inl rfl
      · exact Or.inr (Or.inl rfl)
      · exact Or.inr (Or.inr (Or.inl rfl))
      · exact Or.inr (Or.inr (Or.inr rfl))
    obtain ⟨g1, g2, g3⟩ := tk_go_60 (t := (true, true)) hs4 k3 sb
    have st := st_go_60 (n := n) (I0 := I0) (A0 := A0) (J := J) (t := t) (x1 := x1) (Nat.le_of_lt hk) hv ha t3 kz f g1
    rw [g2, g3] at st
    refine ⟨_, ⟨fun h => absurd h (by decide), fun _ => st⟩, h32, ((cu_n (by decide)).trans (h1)), ((cu_n (by decide)).trans (h2)), (cu_s), ((cu_n (by decide)).trans (h3)), ((cu_n (by decide)).trans (h7)), ((cu_n (by decide)).trans (h8)), ((cu_n (by decide)).trans (h5)), ((cu_n (by decide)).trans (h6)), ((cu_n (by decide)).trans (hth)), ((cu_n (by decide)).trans (hfi)), ((cu_n (by decide)).trans (hbe)), ((cu_n (by decide)).trans (hwr)), h9.1, h9.2, b3, b4, b5, b6⟩
theorem cl_rule (hc : c = 37 ∨ c = 60) (hn : 2100 ≤ n) (hL : L ≤ 2000) (hk : k < 400) (C : C0 c T L k σ z wr I A) (hK : kK T L k = 13 ∨ kK T L k = 14) (hz : z < 20) : ∃ I', CR c n I0 A0 J t x1 k I A (k + 1) I' A ∧ CI c T L (k + 1) 1 0 σ z 0 0 (if nI (kK T L k) = 14 then 1 else 0) 0 10000 wr I' A := by
  rcases hc with rfl | rfl
  · obtain ⟨ha, Q⟩ := cl_pre0 (n := n) (J := J) (t := (false, true)) (Or.inl rfl) hn hL C
    have f := fo0_n_37 (n := n) (J := J) (Nat.le_of_lt hk) Q
    generalize hv : pI_X7_advance_34_txT n I A J (false, true) = Iv at *
    obtain ⟨h32, h1, h2, t3, t4, t5, h4, h3, h7, h8, hwr, b1⟩ := Q
    have ff : FZ z (kK T L k) k = 0 := by
      unfold FZ
      rw [if_neg (by omega), if_pos hK, if_neg (by omega), if_neg (by omega)]
    rw [ff] at f
    have kz : nI (kK T L k) ≠ 0 := nI_ne0 (by omega) (by omega)
    have hx : nI (kK T L k) = 13 ∨ nI (kK T L k) = 14 := by
      rcases hK with e | e
      · left; rw [e]; rfl
      · right; rw [e]; rfl
    obtain ⟨g1, g2, g3⟩ := tk_rule_37 (n := n) (A := A) (J := J) (t := (false, true)) h4 hx
    have st := st_go_37 (n := n) (I0 := I0) (A0 := A0) (J := J) (t := t) (x1 := x1) (Nat.le_of_lt hk) hv ha t3 kz f g1
    rw [g2, g3] at st
    refine ⟨_, ⟨fun _ => st, fun h => absurd h (by decide)⟩, h32, ((cu_n (by decide)).trans ((cu_n (by decide)).trans ((cu_n (by decide)).trans ((cu_n (by decide)).trans ((cu_n (by decide)).trans ((cu_n (by decide)).trans (h1))))))), ((cu_n (by decide)).trans ((cu_n (by decide)).trans ((cu_n (by decide)).trans ((cu_n (by decide)).trans ((cu_n (by decide)).trans ((cu_n (by decide)).trans (h2))))))), ((cu_n (by decide)).trans ((cu_n (by decide)).trans ((cu_n (by decide)).trans ((cu_n (by decide)).trans ((cu_n (by decide)).trans (cu_s)))))), ((cu_n (by decide)).trans ((cu_n (by decide)).trans ((cu_n (by decide)).trans ((cu_n (by decide)).trans ((cu_n (by decide)).trans ((cu_n (by decide)).trans (h3))))))), ((cu_n (by decide)).trans ((cu_n (by decide)).trans ((cu_n (by decide)).trans ((cu_n (by decide)).trans ((cu_n (by decide)).trans ((cu_n (by decide)).trans (h7))))))), ((cu_n (by decide)).trans ((cu_n (by decide)).trans ((cu_n (by decide)).trans ((cu_n (by decide)).trans ((cu_n (by decide)).trans ((cu_n (by decide)).trans (h8))))))), ((cu_n (by decide)).trans (cu_s)), (cu_s), ((cu_n (by decide)).trans ((cu_n (by decide)).trans ((cu_n (by decide)).trans ((cu_n (by decide)).trans (cu_s))))), ((cu_n (by decide)).trans ((cu_n (by decide)).trans ((cu_n (by decide)).trans (cu_s)))), ((cu_n (by decide)).trans ((cu_n (by decide)).trans (cu_s))), ((cu_n (by decide)).trans ((cu_n (by decide)).trans ((cu_n (by decide)).trans ((cu_n (by decide)).trans ((cu_n (by decide)).trans ((cu_n (by decide)).trans (hwr))))))), by decide, by decide, by decide, by decide, ?_, hz⟩
    split
    · exact Or.inr rfl
    · exact Or.inl rfl
  · obtain ⟨ha, Q⟩ := cl_pre0 (n := n) (J := J) (t := (true, true)) (Or.inr rfl) hn hL C
    have f := fo0_n_60 (n := n) (J := J) (Nat.le_of_lt hk) Q
    generalize hv : pI_X7_advance_34_txT n I A J (true, true) = Iv at *
    obtain ⟨h32, h1, h2, t3, t4, t5, h4, h3, h7, h8, hwr, b1⟩ := Q
    have ff : FZ z (kK T L k) k = 0 := by
      unfold FZ
      rw [if_neg (by omega), if_pos hK, if_neg (by omega), if_neg (by omega)]
    rw [ff] at f
    have kz : nI (kK T L k) ≠ 0 := nI_ne0 (by omega) (by omega)
    have hx : nI (kK T L k) = 13 ∨ nI (kK T L k) = 14 := by
      rcases hK with e | e
      · left; rw [e]; rfl
      · right; rw [e]; rfl
    obtain ⟨g1, g2, g3⟩ := tk_rule_60 (n := n) (A := A) (J := J) (t := (true, true)) h4 hx
    have st := st_go_60 (n := n) (I0 := I0) (A0 := A0) (J := J) (t := t) (x1 := x1) (Nat.le_of_lt hk) hv ha t3 kz f g1
    rw [g2, g3] at st
    refine ⟨_, ⟨fun h => absurd h (by decide), fun _ => st⟩, h32, ((cu_n (by decide)).trans ((cu_n (by decide)).trans ((cu_n (by decide)).trans ((cu_n (by decide)).trans ((cu_n (by decide)).trans ((cu_n (by decide)).trans (h1))))))), ((cu_n (by decide)).trans ((cu_n (by decide)).trans ((cu_n (by decide)).trans ((cu_n (by decide)).trans ((cu_n (by decide)).trans ((cu_n (by decide)).trans (h2))))))), ((cu_n (by decide)).trans ((cu_n (by decide)).trans ((cu_n (by decide)).trans ((cu_n (by decide)).trans ((cu_n (by decide)).trans (cu_s)))))), ((cu_n (by decide)).trans ((cu_n (by decide)).trans ((cu_n (by decide)).trans ((cu_n (by decide)).trans ((cu_n (by decide)).trans ((cu_n (by decide)).trans (h3))))))), ((cu_n (by decide)).trans ((cu_n (by decide)).trans ((cu_n (by decide)).trans ((cu_n (by decide)).trans ((cu_n (by decide)).trans ((cu_n (by decide)).trans (h7))))))), ((cu_n (by decide)).trans ((cu_n (by decide)).trans ((cu_n (by decide)).trans ((cu_n (by decide)).trans ((cu_n (by decide)).trans ((cu_n (by decide)).trans (h8))))))), ((cu_n (by decide)).trans (cu_s)), (cu_s), ((cu_n (by decide)).trans ((cu_n (by decide)).trans ((cu_n (by decide)).trans ((cu_n (by decide)).trans (cu_s))))), ((cu_n (by decide)).trans ((cu_n (by decide)).trans ((cu_n (by decide)).trans (cu_s)))), ((cu_n (by decide)).trans ((cu_n (by decide)).trans (cu_s))), ((cu_n (by decide)).trans ((cu_n (by decide)).trans ((cu_n (by decide)).trans ((cu_n (by decide)).trans ((cu_n (by decide)).trans ((cu_n (by decide)).trans (hwr))))))), by decide, by decide, by decide, by decide, ?_, hz⟩
    split
    · exact Or.inr rfl
    · exact Or.inl rfl
theorem cl_from (hc : c = 37 ∨ c = 60) (hn : 2100 ≤ n) (hL : L ≤ 2000) (hk : k < 400) (C : CI c T L k 3 w σ z d r th fi be wr I A) (hK : kK T L k = 2) : ∃ I', CR c n I0 A0 J t x1 k I A (k + 1) I' A ∧ CI c T L (k + 1) 4 w σ z d r th (kV T L k) be wr I' A := by
  rcases hc with rfl | rfl
  · obtain ⟨ha, Q⟩ := cl_pre (n := n) (J := J) (t := (false, true)) (Or.inl rfl) hn hL C
    have f := fo_n_37 (n := n) (J := J) (Nat.le_of_lt hk) Q
    generalize hv : pI_X7_advance_34_txT n I A J (false, true) = Iv at *
    obtain ⟨h32, h1, h2, t3, t4, t5, h4, h3, h7, h8, h5, h6, hth, hfi, hbe, hwr, b1, b2, b3, b4, b5, b6⟩ := Q
    have hκ := kK_le (T := T) (L := L) (k := k)
    have sb := sb_all (n := n) (A := A) (J := J) (t := (false, true)) b2 hκ b3 b4 h4 h5 h6
    rw [hK] at f sb t3 hκ
    rw [FO_0 (by decide) (by unfold sB; simp) hk (fun y => absurd y (by decide))] at f
    have kz : nI 2 ≠ 0 := by decide
    obtain ⟨g1, g2, g3⟩ := tk_from_37 (n := n) (A := A) (J := J) (t := (false, true)) (x := nI 2) h4 rfl
    have st := st_go_37 (n := n) (I0 := I0) (A0 := A0) (J := J) (t := t) (x1 := x1) (Nat.le_of_lt hk) hv ha t3 kz f g1
    rw [g2, g3] at st
    refine ⟨_, ⟨fun _ => st, fun h => absurd h (by decide)⟩, h32, ((cu_n (by decide)).trans ((cu_n (by decide)).trans (h1))), ((cu_n (by decide)).trans ((cu_n (by decide)).trans (h2))), ((cu_n (by decide)).trans (cu_s)), ((cu_n (by decide)).trans ((cu_n (by decide)).trans (h3))), ((cu_n (by decide)).trans ((cu_n (by decide)).trans (h7))), ((cu_n (by decide)).trans ((cu_n (by decide)).trans (h8))), ((cu_n (by decide)).trans ((cu_n (by decide)).trans (h5))), ((cu_n (by decide)).trans ((cu_n (by decide)).trans (h6))), ((cu_n (by decide)).trans ((cu_n (by decide)).trans (hth))), (cu_s.trans t5), ((cu_n (by decide)).trans ((cu_n (by decide)).trans (hbe))), ((cu_n (by decide)).trans ((cu_n (by decide)).trans (hwr))), by decide, by decide, b3, b4, b5, b6⟩
  · obtain ⟨ha, Q⟩ := cl_pre (n := n) (J := J) (t := (true, true)) (Or.inr rfl) hn hL C
    have f := fo_n_60 (n := n) (J := J) (Nat.le_of_lt hk) Q
    generalize hv : pI_X7_advance_34_txT n I A J (true, true) = Iv at *
    obtain ⟨h32, h1, h2, t3, t4, t5, h4, h3, h7, h8, h5, h6, hth, hfi, hbe, hwr, b1, b2, b3, b4, b5, b6⟩ := Q
    have hκ := kK_le (T := T) (L := L) (k := k)
    have sb := sb_all (n := n) (A := A) (J := J) (t := (true, true)) b2 hκ b3 b4 h4 h5 h6
    rw [hK] at f sb t3 hκ
    rw [FO_0 (by decide) (by unfold sB; simp) hk (fun y => absurd y (by decide))] at f
    have kz : nI 2 ≠ 0 := by decide
    obtain ⟨g1, g2, g3⟩ := tk_from_60 (n := n) (A := A) (J := J) (t := (true, true)) (x := nI 2) h4 rfl
    have st := st_go_60 (n := n) (I0 := I0) (A0 := A0) (J := J) (t := t) (x1 := x1) (Nat.le_of_lt hk) hv ha t3 kz f g1
    rw [g2, g3] at st
    refine ⟨_, ⟨fun h => absurd h (by decide), fun _ => st⟩, h32, ((cu_n (by decide)).trans ((cu_n (by decide)).trans (h1))), ((cu_n (by decide)).trans ((cu_n (by decide)).trans (h2))), ((cu_n (by decide)).trans (cu_s)), ((cu_n (by decide)).trans ((cu_n (by decide)).trans (h3))), ((cu_n (by decide)).trans ((cu_n (by decide)).trans (h7))), ((cu_n (by decide)).trans ((cu_n (by decide)).trans (h8))), ((cu_n (by decide)).trans ((cu_n (by decide)).trans (h5))), ((cu_n (by decide)).trans ((cu_n (by decide)).trans (h6))), ((cu_n (by decide)).trans ((cu_n (by decide)).trans (hth))), (cu_s.trans t5), ((cu_n (by decide)).trans ((cu_n (by decide)).trans (hbe))), ((cu_n (by decide)).trans ((cu_n (by decide)).trans (hwr))), by decide, by decide, b3, b4, b5, b6⟩
theorem cl_until (hc : c = 37 ∨ c = 60) (hn : 2100 ≤ n) (hL : L ≤ 2000) (hk : k < 400) (C : CI c T L k 5 w σ z d r th fi be wr I A) (hK : kK T L k = 2) : ∃ I', CR c n I0 A0 J t x1 k I A (k + 1) I' A ∧ CI c T L (k + 1) 6 w σ z d r th fi (kV T L k) (if fi < kV T L k then wr else if wr = -1 then nI (kP T L k) else wr) I' A := by
  rcases hc with rfl | rfl
  · obtain ⟨ha, Q⟩ := cl_pre (n := n) (J := J) (t := (false, true)) (Or.inl rfl) hn hL C
    have f := fo_n_37 (n := n) (J := J) (Nat.le_of_lt hk) Q
    generalize hv : pI_X7_advance_34_txT n I A J (false, true) = Iv at *
    obtain ⟨h32, h1, h2, t3, t4, t5, h4, h3, h7, h8, h5, h6, hth, hfi, hbe, hwr, b1, b2, b3, b4, b5, b6⟩ := Q
    have hκ := kK_le (T := T) (L := L) (k := k)
    have sb := sb_all (n := n) (A := A) (J := J) (t := (false, true)) b2 hκ b3 b4 h4 h5 h6
    rw [hK] at f sb t3 hκ
    rw [FO_0 (by decide) (by unfold sB; simp) hk (fun y => absurd y (by decide))] at f
    have kz : nI 2 ≠ 0 := by decide
    obtain ⟨g1, g2, g3⟩ := tk_until_37 (n := n) (A := A) (J := J) (t := (false, true)) (x := nI 2) h4 rfl
    rw [hfi, t5, hwr, t4] at g2
    have st := st_go_37 (n := n) (I0 := I0) (A0 := A0) (J := J) (t := t) (x1 := x1) (Nat.le_of_lt hk) hv ha t3 kz f g1
    rw [g2, g3] at st
    refine ⟨_, ⟨fun _ => st, fun h => absurd h (by decide)⟩, h32, ((cu_n (by decide)).trans ((cu_n (by decide)).trans ((cu_n (by decide)).trans (h1)))), ((cu_n (by decide)).trans ((cu_n (by decide)).trans ((cu_n (by decide)).trans (h2)))), ((cu_n (by decide)).trans ((cu_n (by decide)).trans (cu_s))), ((cu_n (by decide)).trans ((cu_n (by decide)).trans ((cu_n (by decide)).trans (h3)))), ((cu_n (by decide)).trans ((cu_n (by decide)).trans ((cu_n (by decide)).trans (h7)))), ((cu_n (by decide)).trans ((cu_n (by decide)).trans ((cu_n (by decide)).trans (h8)))), ((cu_n (by decide)).trans ((cu_n (by decide)).trans ((cu_n (by decide)).trans (h5)))), ((cu_n (by decide)).trans ((cu_n (by decide)).trans ((cu_n (by decide)).trans (h6)))), ((cu_n (by decide)).trans ((cu_n (by decide)).trans ((cu_n (by decide)).trans (hth)))), ((cu_n (by decide)).trans ((cu_n (by decide)).trans ((cu_n (by decide)).trans (hfi)))), ((cu_n (by decide)).trans (cu_s)), (cu_s), by decide, by decide, b3, b4, b5, b6⟩
  · obtain ⟨ha, Q⟩ := cl_pre (n := n) (J := J) (t := (true, true)) (Or.inr rfl) hn hL C
    have f := fo_n_60 (n := n) (J := J) (Nat.le_of_lt hk) Q
    generalize hv : pI_X7_advance_34_txT n I A J (true, true) = Iv at *
    obtain ⟨h32, h1, h2, t3, t4, t5, h4, h3, h7, h8, h5, h6, hth, hfi, hbe, hwr, b1, b2, b3, b4, b5, b6⟩ := Q
    have hκ := kK_le (T := T) (L := L) (k := k)
    have sb := sb_all (n := n) (A := A) (J := J) (t := (true, true)) b2 hκ b3 b4 h4 h5 h6
    rw [hK] at f sb t3 hκ
    rw [FO_0 (by decide) (by unfold sB; simp) hk (fun y => absurd y (by decide))] at f
    have kz : nI 2 ≠ 0 := by decide
    obtain ⟨g1, g2, g3⟩ := tk_until_60 (n := n) (A := A) (J := J) (t := (true, true)) (x := nI 2) h4 rfl
    rw [hfi, t5, hwr, t4] at g2
    have st := st_go_60 (n := n) (I0 := I0) (A0 := A0) (J := J) (t := t) (x1 := x1) (Nat.le_of_lt hk) hv ha t3 kz f g1
    rw [g2, g3] at st
    refine ⟨_, ⟨fun h => absurd h (by decide), fun _ => st⟩, h32, ((cu_n (by decide)).trans ((cu_n (by decide)).trans ((cu_n (by decide)).trans (h1)))), ((cu_n (by decide)).trans ((cu_n (by decide)).trans ((cu_n (by decide)).trans (h2)))), ((cu_n (by decide)).trans ((cu_n (by decide)).trans (cu_s))), ((cu_n (by decide)).trans ((cu_n (by decide)).trans ((cu_n (by decide)).trans (h3)))), ((cu_n (by decide)).trans ((cu_n (by decide)).trans ((cu_n (by decide)).trans (h7)))), ((cu_n (by decide)).trans ((cu_n (by decide)).trans ((cu_n (by decide)).trans (h8)))), ((cu_n (by decide)).trans ((cu_n (by decide)).trans ((cu_n (by decide)).trans (h5)))), ((cu_n (by decide)).trans ((cu_n (by decide)).trans ((cu_n (by decide)).trans (h6)))), ((cu_n (by decide)).trans ((cu_n (by decide)).trans ((cu_n (by decide)).trans (hth)))), ((cu_n (by decide)).trans ((cu_n (by decide)).trans ((cu_n (by decide)).trans (hfi)))), ((cu_n (by decide)).trans (cu_s)), (cu_s), by decide, by decide, b3, b4, b5, b6⟩
theorem cl_semi (hc : c = 37 ∨ c = 60) (hn : 2100 ≤ n) (hL : L ≤ 2000) (hk : k < 400) (C : CI c T L k s 0 σ z d r th fi be wr I A) (hs : s = 2 ∨ s = 4 ∨ s = 6) (hK : kK T L k = 3) : ∃ I', CR c n I0 A0 J t x1 k I A (k + 1) I' (cw_u (cw_u (cw_u (cw_u A (c + 1) z th) (c + 2) z fi) (c + 3) z be) (c + 4) z (nI σ)) ∧ C0 c T L (k + 1) σ (z + 1) wr I' (cw_u (cw_u (cw_u (cw_u A (c + 1) z th) (c + 2) z fi) (c + 3) z be) (c + 4) z (nI σ)) := by
  rcases hc with rfl | rfl
  · obtain ⟨ha, Q⟩ := cl_pre (n := n) (J := J) (t := (false, true)) (Or.inl rfl) hn hL C
    have f := fo_n_37 (n := n) (J := J) (Nat.le_of_lt hk) Q
    generalize hv : pI_X7_advance_34_txT n I A J (false, true) = Iv at *
    obtain ⟨h32, h1, h2, t3, t4, t5, h4, h3, h7, h8, h5, h6, hth, hfi, hbe, hwr, b1, b2, b3, b4, b5, b6⟩ := Q
    have hκ := kK_le (T := T) (L := L) (k := k)
    have sb := sb_all (n := n) (A := A) (J := J) (t := (false, true)) b2 hκ b3 b4 h4 h5 h6
    rw [hK] at f sb t3 hκ
    have hB : ¬ sB s d r 3 = 99 := by
      rcases hs with e | e | e <;> subst e <;> unfold sB <;> simp
    rw [FO_0 (by decide) hB hk (fun y => absurd y (by decide))] at f
    have kz : nI 3 ≠ 0 := by decide
    have hs4 : Iv 33 4 = 2 ∨ Iv 33 4 = 4 ∨ Iv 33 4 = 6 := by
      rw [h4]
      rcases hs with e | e | e <;> subst e
      · exact Or.inl rfl
      · exact Or.inr (Or.inl rfl)
      · exact Or.inr (Or.inr rfl)
    obtain ⟨g1, g2, g3⟩ := tk_semi_37 (n := n) (A := A) (J := J) (t := (false, true)) hs4 h8 b6 (by rw [hth]; exact b5)
    rw [hth, hfi, hbe, h7] at g3
    have g1' : pb_X4_take_33_tFx n Iv A J (false, true) (nI 3) := g1
    have g2' : pI_X4_take_33_tFx n Iv A J (false, true) (nI 3) = _ := g2
    have g3' : pA_X4_take_33_tFx n Iv A J (false, true) (nI 3) = _ := g3
    have st := st_go_37 (n := n) (I0 := I0) (A0 := A0) (J := J) (t := t) (x1 := x1) (Nat.le_of_lt hk) hv ha t3 kz f g1'
    rw [g2', g3'] at st
    refine ⟨_, ⟨fun _ => st, fun h => absurd h (by decide)⟩, (cw_u_c _ _ (by decide)).trans ((cw_u_c _ _ (by decide)).trans ((cw_u_c _ _ (by decide)).trans ((cw_u_c _ _ (by decide)).trans (h32)))), ((cu_n (by decide)).trans ((cu_n (by decide)).trans (h1))), ((cu_n (by decide)).trans ((cu_n (by decide)).trans (h2))), ((cu_n (by decide)).trans (cu_s)), ((cu_n (by decide)).trans ((cu_n (by decide)).trans (h3))), ((cu_n (by decide)).trans ((cu_n (by decide)).trans (h7))), (cu_s), ((cu_n (by decide)).trans ((cu_n (by decide)).trans (hwr))), by omega⟩
  · obtain ⟨ha, Q⟩ := cl_pre (n := n) (J := J) (t := (true, true)) (Or.inr rfl) hn hL C
    have f := fo_n_60 (n := n) (J := J) (Nat.le_of_lt hk) Q
    generalize hv : pI_X7_advance_34_txT n I A J (true, true) = Iv at *
    obtain ⟨h32, h1, h2, t3, t4, t5, h4, h3, h7, h8, h5, h6, hth, hfi, hbe, hwr, b1, b2, b3, b4, b5, b6⟩ := Q
    have hκ := kK_le (T := T) (L := L) (k := k)
    have sb := sb_all (n := n) (A := A) (J := J) (t := (true, true)) b2 hκ b3 b4 h4 h5 h6
    rw [hK] at f sb t3 hκ
    have hB : ¬ sB s d r 3 = 99 := by
      rcases hs with e | e | e <;> subst e <;> unfold sB <;> simp
    rw [FO_0 (by decide) hB hk (fun y => absurd y (by decide))] at f
    have kz : nI 3 ≠ 0 := by decide
    have hs4 : Iv 33 4 = 2 ∨ Iv 33 4 = 4 ∨ Iv 33 4 = 6 := by
      rw [h4]
      rcases hs with e | e | e <;> subst e
      · exact Or.inl rfl
      · exact Or.inr (Or.inl rfl)
      · exact Or.inr (Or.inr rfl)
    obtain ⟨g1, g2, g3⟩ := tk_semi_60 (n := n) (A := A) (J := J) (t := (true, true)) hs4 h8 b6 (by rw [hth]; exact b5)
    rw [hth, hfi, hbe, h7] at g3
    have g1' : pb_X4_take_33_tTx n Iv A J (true, true) (nI 3) := g1
    have g2' : pI_X4_take_33_tTx n Iv A J (true, true) (nI 3) = _ := g2
    have g3' : pA_X4_take_33_tTx n Iv A J (true, true) (nI 3) = _ := g3
    have st := st_go_60 (n := n) (I0 := I0) (A0 := A0) (J := J) (t := t) (x1 := x1) (Nat.le_of_lt hk) hv ha t3 kz f g1'
    rw [g2', g3'] at st
    refine ⟨_, ⟨fun h => absurd h (by decide), fun _ => st⟩, (cw_u_c _ _ (by decide)).trans ((cw_u_c _ _ (by decide)).trans ((cw_u_c _ _ (by decide)).trans ((cw_u_c _ _ (by decide)).trans (h32)))), ((cu_n (by decide)).trans ((cu_n (by decide)).trans (h1))), ((cu_n (by decide)).trans ((cu_n (by decide)).trans (h2))), ((cu_n (by decide)).trans (cu_s)), ((cu_n (by decide)).trans ((cu_n (by decide)).trans (h3))), ((cu_n (by decide)).trans ((cu_n (by decide)).trans (h7))), (cu_s), ((cu_n (by decide)).trans ((cu_n (by decide)).trans (hwr))), by omega⟩
theorem cl_open (hc : c = 37 ∨ c = 60) (hn : 2100 ≤ n) (hL : L ≤ 2000) (hk : k < 400) (C : CI c T L k 7 w σ z d r th fi be wr I A) (hK : kK T L k = 11) (hw : w < 22) (hd : d < 6) : ∃ I', CR c n I0 A0 J t x1 k I A (k + 1) I' (cw_u A 36 w 11) ∧ CI c T L (k + 1) 7 (w + 1) σ z (d + 1) r th fi be wr I' (cw_u A 36 w 11) := by
  rcases hc with rfl | rfl
  · obtain ⟨ha, Q⟩ := cl_pre (n := n) (J := J) (t := (false, true)) (Or.inl rfl) hn hL C
    have f := fo_n_37 (n := n) (J := J) (Nat.le_of_lt hk) Q
    generalize hv : pI_X7_advance_34_txT n I A J (false, true) = Iv at *
    obtain ⟨h32, h1, h2, t3, t4, t5, h4, h3, h7, h8, h5, h6, hth, hfi, hbe, hwr, b1, b2, b3, b4, b5, b6⟩ := Q
    have hκ := kK_le (T := T) (L := L) (k := k)
    have sb := sb_all (n := n) (A := A) (J := J) (t := (false, true)) b2 hκ b3 b4 h4 h5 h6
    rw [hK] at f sb t3 hκ
    rw [FO_0 (by decide) (by unfold sB; simp) hk (fun _ => hd)] at f
    have kz : nI 11 ≠ 0 := by decide
    obtain ⟨g1, g2, g3⟩ := tk_open_37 (n := n) (A := A) (J := J) (t := (false, true)) h4 h3 hw h5
    have g1' : pb_X4_take_33_tFx n Iv A J (false, true) (nI 11) := g1
    have g2' : pI_X4_take_33_tFx n Iv A J (false, true) (nI 11) = _ := g2
    have g3' : pA_X4_take_33_tFx n Iv A J (false, true) (nI 11) = _ := g3
    have st := st_go_37 (n := n) (I0 := I0) (A0 := A0) (J := J) (t := t) (x1 := x1) (Nat.le_of_lt hk) hv ha t3 kz f g1'
    rw [g2', g3'] at st
    refine ⟨_, ⟨fun _ => st, fun h => absurd h (by decide)⟩, (cw_u_c _ _ (by decide)).trans h32, ((cu_n (by decide)).trans ((cu_n (by decide)).trans ((cu_n (by decide)).trans (h1)))), ((cu_n (by decide)).trans ((cu_n (by decide)).trans ((cu_n (by decide)).trans (h2)))), ((cu_n (by decide)).trans ((cu_n (by decide)).trans (cu_s))), (cu_s), ((cu_n (by decide)).trans ((cu_n (by decide)).trans ((cu_n (by decide)).trans (h7)))), ((cu_n (by decide)).trans ((cu_n (by decide)).trans ((cu_n (by decide)).trans (h8)))), ((cu_n (by decide)).trans (cu_s)), ((cu_n (by decide)).trans ((cu_n (by decide)).trans ((cu_n (by decide)).trans (h6)))), ((cu_n (by decide)).trans ((cu_n (by decide)).trans ((cu_n (by decide)).trans (hth)))), ((cu_n (by decide)).trans ((cu_n (by decide)).trans ((cu_n (by decide)).trans (hfi)))), ((cu_n (by decide)).trans ((cu_n (by decide)).trans ((cu_n (by decide)).trans (hbe)))), ((cu_n (by decide)).trans ((cu_n (by decide)).trans ((cu_n (by decide)).trans (hwr)))), by decide, by decide, by omega, b4, b5, b6⟩
  · obtain ⟨ha, Q⟩ := cl_pre (n := n) (J := J) (t := (true, true)) (Or.inr rfl) hn hL C
    have f := fo_n_60 (n := n) (J := J) (Nat.le_of_lt hk) Q
    generalize hv : pI_X7_advance_34_txT n I A J (true, true) = Iv at *
    obtain ⟨h32, h1, h2, t3, t4, t5, h4, h3, h7, h8, h5, h6, hth, hfi, hbe, hwr, b1, b2, b3, b4, b5, b6⟩ := Q
    have hκ := kK_le (T := T) (L := L) (k := k)
    have sb := sb_all (n := n) (A := A) (J := J) (t := (true, true)) b2 hκ b3 b4 h4 h5 h6
    rw [hK] at f sb t3 hκ
    rw [FO_0 (by decide) (by unfold sB; simp) hk (fun _ => hd)] at f
    have kz : nI 11 ≠ 0 := by decide
    obtain ⟨g1, g2, g3⟩ := tk_open_60 (n := n) (A := A) (J := J) (t := (true, true)) h4 h3 hw h5
    have g1' : pb_X4_take_33_tTx n Iv A J (true, true) (nI 11) := g1
    have g2' : pI_X4_take_33_tTx n Iv A J (true, true) (nI 11) = _ := g2
    have g3' : pA_X4_take_33_tTx n Iv A J (true, true) (nI 11) = _ := g3
    have st := st_go_60 (n := n) (I0 := I0) (A0 := A0) (J := J) (t := t) (x1 := x1) (Nat.le_of_lt hk) hv ha t3 kz f g1'
    rw [g2', g3'] at st
    refine ⟨_, ⟨fun h => absurd h (by decide), fun _ => st⟩, (cw_u_c _ _ (by decide)).trans h32, ((cu_n (by decide)).trans ((cu_n (by decide)).trans ((cu_n (by decide)).trans (h1)))), ((cu_n (by decide)).trans ((cu_n (by decide)).trans ((cu_n (by decide)).trans (h2)))), ((cu_n (by decide)).trans ((cu_n (by decide)).trans (cu_s))), (cu_s), ((cu_n (by decide)).trans ((cu_n (by decide)).trans ((cu_n (by decide)).trans (h7)))), ((cu_n (by decide)).trans ((cu_n (by decide)).trans ((cu_n (by decide)).trans (h8)))), ((cu_n (by decide)).trans (cu_s)), ((cu_n (by decide)).trans ((cu_n (by decide)).trans ((cu_n (by decide)).trans (h6)))), ((cu_n (by decide)).trans ((cu_n (by decide)).trans ((cu_n (by decide)).trans (hth)))), ((cu_n (by decide)).trans ((cu_n (by decide)).trans ((cu_n (by decide)).trans (hfi)))), ((cu_n (by decide)).trans ((cu_n (by decide)).trans ((cu_n (by decide)).trans (hbe)))), ((cu_n (by decide)).trans ((cu_n (by decide)).trans ((cu_n (by decide)).trans (hwr)))), by decide, by decide, by omega, b4, b5, b6⟩
theorem cl_unit (hc : c = 37 ∨ c = 60) (hn : 2100 ≤ n) (hL : L ≤ 2000) (hk : k < 400) (C : CI c T L k 7 w σ z d r th fi be wr I A) (hK : kK T L k = 2 ∨ 20 ≤ kK T L k) (hs : σ < 400) : ∃ I', CR c n I0 A0 J t x1 k I A (k + 1) I' (cw_u (cw_u A (c + 5) σ (nI (kK T L k))) (c + 6) σ (kV T L k)) ∧ CI c T L (k + 1) 8 w (σ + 1) z d r th fi be wr I' (cw_u (cw_u A (c + 5) σ (nI (kK T L k))) (c + 6) σ (kV T L k)) := by
  rcases hc with rfl | rfl
  · obtain ⟨ha, Q⟩ := cl_pre (n := n) (J := J) (t := (false, true)) (Or.inl rfl) hn hL C
    have f := fo_n_37 (n := n) (J := J) (Nat.le_of_lt hk) Q
    generalize hv : pI_X7_advance_34_txT n I A J (false, true) = Iv at *
    obtain ⟨h32, h1, h2, t3, t4, t5, h4, h3, h7, h8, h5, h6, hth, hfi, hbe, hwr, b1, b2, b3, b4, b5, b6⟩ := Q
    have hκ := kK_le (T := T) (L := L) (k := k)
    have sb := sb_all (n := n) (A := A) (J := J) (t := (false, true)) b2 hκ b3 b4 h4 h5 h6
    have eB : sB 7 d r (kK T L k) = 8 := by
      have e : sB 7 d r (kK T L k) = if kK T L k = 11 then 7 else if kK T L k = 2 ∨ 20 ≤ kK T L k then 8 else 99 := rfl
      rw [e, if_neg (by omega), if_pos hK]
    rw [FO_0 (by omega) (by rw [eB]; decide) hk (fun y => by omega)] at f
    rw [eB] at sb
    have kz : nI (kK T L k) ≠ 0 := nI_ne0 (by omega) (by omega)
    have k3 : ¬ nI (kK T L k) = 3 := fun y => by
      have := (nI_eq (b := 3) (by omega) (by omega)).1 y
      omega
    have k11 : ¬ nI (kK T L k) = 11 := fun y => by
      have := (nI_eq (b := 11) (by omega) (by omega)).1 y
      omega
    obtain ⟨g1, g2, g3⟩ := tk_unit_37 (n := n) (A := A) (J := J) (t := (false, true)) h4 k11 k3 sb h7 hs
    rw [t5] at g3
    have st := st_go_37 (n := n) (I0 := I0) (A0 := A0) (J := J) (t := t) (x1 := x1) (Nat.le_of_lt hk) hv ha t3 kz f g1
    rw [g2, g3] at st
    refine ⟨_, ⟨fun _ => st, fun h => absurd h (by decide)⟩, (cw_u_c _ _ (by decide)).trans ((cw_u_c _ _ (by decide)).trans h32), ((cu_n (by decide)).trans ((cu_n (by decide)).trans (h1))), ((cu_n (by decide)).trans ((cu_n (by decide)).trans (h2))), ((cu_n (by decide)).trans (cu_s)), ((cu_n (by decide)).trans ((cu_n (by decide)).trans (h3))), (cu_s), ((cu_n (by decide)).trans ((cu_n (by decide)).trans (h8))), ((cu_n (by decide)).trans ((cu_n (by decide)).trans (h5))), ((cu_n (by decide)).trans ((cu_n (by decide)).trans (h6))), ((cu_n (by decide)).trans ((cu_n (by decide)).trans (hth))), ((cu_n (by decide)).trans ((cu_n (by decide)).trans (hfi))), ((cu_n (by decide)).trans ((cu_n (by decide)).trans (hbe))), ((cu_n (by decide)).trans ((cu_n (by decide)).trans (hwr))), by decide, by decide, b3, b4, b5, b6⟩
  · obtain ⟨ha, Q⟩ := cl_pre (n := n) (J := J) (t := (true, true)) (Or.inr rfl) hn hL C
    have f := fo_n_60 (n := n) (J := J) (Nat.le_of_lt hk) Q
    generalize hv : pI_X7_advance_34_txT n I A J (true, true) = Iv at *
    obtain ⟨h32, h1, h2, t3, t4, t5, h4, h3, h7, h8, h5, h6, hth, hfi, hbe, hwr, b1, b2, b3, b4, b5, b6⟩ := Q
    have hκ := kK_le (T := T) (L := L) (k := k)
    have sb := sb_all (n := n) (A := A) (J := J) (t := (true, true)) b2 hκ b3 b4 h4 h5 h6
    have eB : sB 7 d r (kK T L k) = 8 := by
      have e : sB 7 d r (kK T L k) = if kK T L k = 11 then 7 else if kK T L k = 2 ∨ 20 ≤ kK T L k then 8 else 99 := rfl
      rw [e, if_neg (by omega), if_pos hK]
    rw [FO_0 (by omega) (by rw [eB]; decide) hk (fun y => by omega)] at f
    rw [eB] at sb
    have kz : nI (kK T L k) ≠ 0 := nI_ne0 (by omega) (by omega)
    have k3 : ¬ nI (kK T L k) = 3 := fun y => by
      have := (nI_eq (b := 3) (by omega) (by omega)).1 y
      omega
    have k11 : ¬ nI (kK T L k) = 11 := fun y => by
      have := (nI_eq (b := 11) (by omega) (by omega)).1 y
      omega
    obtain ⟨g1, g2, g3⟩ := tk_unit_60 (n := n) (A := A) (J := J) (t := (true, true)) h4 k11 k3 sb h7 hs
    rw [t5] at g3
    have st := st_go_60 (n := n) (I0 := I0) (A0 := A0) (J := J) (t := t) (x1 := x1) (Nat.le_of_lt hk) hv ha t3 kz f g1
    rw [g2, g3] at st
    refine ⟨_, ⟨fun h => absurd h (by decide), fun _ => st⟩, (cw_u_c _ _ (by decide)).trans ((cw_u_c _ _ (by decide)).trans h32), ((cu_n (by decide)).trans ((cu_n (by decide)).trans (h1))), ((cu_n (by decide)).trans ((cu_n (by decide)).trans (h2))), ((cu_n (by decide)).trans (cu_s)), ((cu_n (by decide)).trans ((cu_n (by decide)).trans (h3))), (cu_s), ((cu_n (by decide)).trans ((cu_n (by decide)).trans (h8))), ((cu_n (by decide)).trans ((cu_n (by decide)).trans (h5))), ((cu_n (by decide)).trans ((cu_n (by decide)).trans (h6))), ((cu_n (by decide)).trans ((cu_n (by decide)).trans (hth))), ((cu_n (by decide)).trans ((cu_n (by decide)).trans (hfi))), ((cu_n (by decide)).trans ((cu_n (by decide)).trans (hbe))), ((cu_n (by decide)).trans ((cu_n (by decide)).trans (hwr))), by decide, by decide, b3, b4, b5, b6⟩
theorem cl_sign {j : Nat} (hc : c = 37 ∨ c = 60) (hn : 2100 ≤ n) (hL : L ≤ 2000) (hk : k < 400) (C : CI c T L k 8 w σ z d r th fi be wr I A) (hB : sB 8 d r (kK T L k) = 7) (hK : ¬ kK T L k = 12 ∧ ¬ kK T L k = 19 ∧ ¬ kK T L k = 3) (hj : RJ A (nI (kK T L k)) w j) (hw : w ≤ 22) (hs : σ + j ≤ 400) (hq : w - j < 22) : ∃ I' A1, rf c w σ j A A1 ∧ CR c n I0 A0 J t x1 k I A (k + 1) I' (cw_u A1 36 (w - j) (nI (kK T L k))) ∧ CI c T L (k + 1) 7 (w - j + 1) (σ + j) z d (if r = 0 then (if 7 ≤ kK T L k ∧ kK T L k ≤ 10 then 1 else 0) else 1) th fi be wr I' (cw_u A1 36 (w - j) (nI (kK T L k))) := by
  rcases hc with rfl | rfl
  · obtain ⟨ha, Q⟩ := cl_pre (n := n) (J := J) (t := (false, true)) (Or.inl rfl) hn hL C
    have f := fo_n_37 (n := n) (J := J) (Nat.le_of_lt hk) Q
    generalize hv : pI_X7_advance_34_txT n I A J (false, true) = Iv at *
    obtain ⟨h32, h1, h2, t3, t4, t5, h4, h3, h7, h8, h5, h6, hth, hfi, hbe, hwr, b1, b2, b3, b4, b5, b6⟩ := Q
    have hκ := kK_le (T := T) (L := L) (k := k)
    have sb := sb_all (n := n) (A := A) (J := J) (t := (false, true)) b2 hκ b3 b4 h4 h5 h6
    have k0 : ¬ kK T L k = 0 := fun y => by
      rw [y, sB_0 b2 b4] at hB
      omega
    have k11 : ¬ kK T L k = 11 := fun y => by
      rw [y, sB_11 b2 (by omega) b4] at hB
      omega
    rw [FO_0 k0 (by omega) hk (fun y => absurd y k11)] at f
    rw [hB] at sb
    have kz : nI (kK T L k) ≠ 0 := nI_ne0 (by omega) (by omega)
    have kk : ∀ m, m ≤ 27 → ¬ kK T L k = m → ¬ nI (kK T L k) = nI m := fun m hm y q => y ((nI_eq (by omega) (by omega)).1 q)
    obtain ⟨A1, gr, g1, g2, g3⟩ := tk_sign_37 (n := n) (I := Iv) (A := A) (J := J) (t := (false, true)) (x := nI (kK T L k)) (s := 7) (w := w) (σ := σ) (j := j) ⟨hn, h4, h3, h7, hw, hs, hj.1, hj.2.1, hj.2.2⟩ sb (kk 12 (by decide) hK.1) (kk 19 (by decide) hK.2.1) (kk 3 (by decide) hK.2.2) hq
    rw [h6, irl_n _ hκ r b4] at g2
    have st := st_go_37 (n := n) (I0 := I0) (A0 := A0) (J := J) (t := t) (x1 := x1) (Nat.le_of_lt hk) hv ha t3 kz f g1
    rw [g2, g3] at st
    refine ⟨_, A1, gr, ⟨fun _ => st, fun h => absurd h (by decide)⟩, (cw_u_c _ _ (by decide)).trans ((gr.1 32 (by decide) (by decide)).trans h32), ((cu_n (by decide)).trans ((cu_n (by decide)).trans ((cu_n (by decide)).trans ((cu_n (by decide)).trans ((cu_n (by decide)).trans (h1)))))), ((cu_n (by decide)).trans ((cu_n (by decide)).trans ((cu_n (by decide)).trans ((cu_n (by decide)).trans ((cu_n (by decide)).trans (h2)))))), ((cu_n (by decide)).trans ((cu_n (by decide)).trans ((cu_n (by decide)).trans ((cu_n (by decide)).trans (cu_s))))), (cu_s), ((cu_n (by decide)).trans ((cu_n (by decide)).trans ((cu_n (by decide)).trans (cu_s)))), ((cu_n (by decide)).trans ((cu_n (by decide)).trans ((cu_n (by decide)).trans ((cu_n (by decide)).trans ((cu_n (by decide)).trans (h8)))))), ((cu_n (by decide)).trans ((cu_n (by decide)).trans ((cu_n (by decide)).trans ((cu_n (by decide)).trans ((cu_n (by decide)).trans (h5)))))), ((cu_n (by decide)).trans (cu_s)), ((cu_n (by decide)).trans ((cu_n (by decide)).trans ((cu_n (by decide)).trans ((cu_n (by decide)).trans ((cu_n (by decide)).trans (hth)))))), ((cu_n (by decide)).trans ((cu_n (by decide)).trans ((cu_n (by decide)).trans ((cu_n (by decide)).trans ((cu_n (by decide)).trans (hfi)))))), ((cu_n (by decide)).trans ((cu_n (by decide)).trans ((cu_n (by decide)).trans ((cu_n (by decide)).trans ((cu_n (by decide)).trans (hbe)))))), ((cu_n (by decide)).trans ((cu_n (by decide)).trans ((cu_n (by decide)).trans ((cu_n (by decide)).trans ((cu_n (by decide)).trans (hwr)))))), by decide, by decide, b3, ?_, b5, b6⟩
    split
    · split <;> omega
    · omega
  · obtain ⟨ha, Q⟩ := cl_pre (n := n) (J := J) (t := (true, true)) (Or.inr rfl) hn hL C
    have f := fo_n_60 (n := n) (J := J) (Nat.le_of_lt hk) Q
    generalize hv : pI_X7_advance_34_txT n I A J (true, true) = Iv at *
    obtain ⟨h32, h1, h2, t3, t4, t5, h4, h3, h7, h8, h5, h6, hth, hfi, hbe, hwr, b1, b2, b3, b4, b5, b6⟩ := Q
    have hκ := kK_le (T := T) (L := L) (k := k)
    have sb := sb_all (n := n) (A := A) (J := J) (t := (true, true)) b2 hκ b3 b4 h4 h5 h6
    have k0 : ¬ kK T L k = 0 := fun y => by
      rw [y, sB_0 b2 b4] at hB
      omega
    have k11 : ¬ kK T L k = 11 := fun y => by
      rw [y, sB_11 b2 (by omega) b4] at hB
      omega
    rw [FO_0 k0 (by omega) hk (fun y => absurd y k11)] at f
    rw [hB] at sb
    have kz : nI (kK T L k) ≠ 0 := nI_ne0 (by omega) (by omega)
    have kk : ∀ m, m ≤ 27 → ¬ kK T L k = m → ¬ nI (kK T L k) = nI m := fun m hm y q => y ((nI_eq (by omega) (by omega)).1 q)
    obtain ⟨A1, gr, g1, g2, g3⟩ := tk_sign_60 (n := n) (I := Iv) (A := A) (J := J) (t := (true, true)) (x := nI (kK T L k)) (s := 7) (w := w) (σ := σ) (j := j) ⟨hn, h4, h3, h7, hw, hs, hj.1, hj.2.1, hj.2.2⟩ sb (kk 12 (by decide) hK.1) (kk 19 (by decide) hK.2.1) (kk 3 (by decide) hK.2.2) hq
    rw [h6, irl_n _ hκ r b4] at g2
    have st := st_go_60 (n := n) (I0 := I0) (A0 := A0) (J := J) (t := t) (x1 := x1) (Nat.le_of_lt hk) hv ha t3 kz f g1
    rw [g2, g3] at st
    refine ⟨_, A1, gr, ⟨fun h => absurd h (by decide), fun _ => st⟩, (cw_u_c _ _ (by decide)).trans ((gr.1 32 (by decide) (by decide)).trans h32), ((cu_n (by decide)).trans ((cu_n (by decide)).trans ((cu_n (by decide)).trans ((cu_n (by decide)).trans ((cu_n (by decide)).trans (h1)))))), ((cu_n (by decide)).trans ((cu_n (by decide)).trans ((cu_n (by decide)).trans ((cu_n (by decide)).trans ((cu_n (by decide)).trans (h2)))))), ((cu_n (by decide)).trans ((cu_n (by decide)).trans ((cu_n (by decide)).trans ((cu_n (by decide)).trans (cu_s))))), (cu_s), ((cu_n (by decide)).trans ((cu_n (by decide)).trans ((cu_n (by decide)).trans (cu_s)))), ((cu_n (by decide)).trans ((cu_n (by decide)).trans ((cu_n (by decide)).trans ((cu_n (by decide)).trans ((cu_n (by decide)).trans (h8)))))), ((cu_n (by decide)).trans ((cu_n (by decide)).trans ((cu_n (by decide)).trans ((cu_n (by decide)).trans ((cu_n (by decide)).trans (h5)))))), ((cu_n (by decide)).trans (cu_s)), ((cu_n (by decide)).trans ((cu_n (by decide)).trans ((cu_n (by decide)).trans ((cu_n (by decide)).trans ((cu_n (by decide)).trans (hth)))))), ((cu_n (by decide)).trans ((cu_n (by decide)).trans ((cu_n (by decide)).trans ((cu_n (by decide)).trans ((cu_n (by decide)).trans (hfi)))))), ((cu_n (by decide)).trans ((cu_n (by decide)).trans ((cu_n (by decide)).trans ((cu_n (by decide)).trans ((cu_n (by decide)).trans (hbe)))))), ((cu_n (by decide)).trans ((cu_n (by decide)).trans ((cu_n (by decide)).trans ((cu_n (by decide)).trans ((cu_n (by decide)).trans (hwr)))))), by decide, by decide, b3, ?_, b5, b6⟩
    split
    · split <;> omega
    · omega
theorem cl_close {j : Nat} (hc : c = 37 ∨ c = 60) (hn : 2100 ≤ n) (hL : L ≤ 2000) (hk : k < 400) (C : CI c T L k 8 w σ z (d + 1) r th fi be wr I A) (hK : kK T L k = 12) (hj : RJ A (nI (kK T L k)) w j) (hw : w ≤ 22) (hs : σ + j ≤ 400) (hq : 1 ≤ w - j) : ∃ I' A1, rf c w σ j A A1 ∧ CR c n I0 A0 J t x1 k I A (k + 1) I' A1 ∧ CI c T L (k + 1) 8 (w - j - 1) (σ + j) z d r th fi be wr I' A1 := by
  rcases hc with rfl | rfl
  · obtain ⟨ha, Q⟩ := cl_pre (n := n) (J := J) (t := (false, true)) (Or.inl rfl) hn hL C
    have f := fo_n_37 (n := n) (J := J) (Nat.le_of_lt hk) Q
    generalize hv : pI_X7_advance_34_txT n I A J (false, true) = Iv at *
    obtain ⟨h32, h1, h2, t3, t4, t5, h4, h3, h7, h8, h5, h6, hth, hfi, hbe, hwr, b1, b2, b3, b4, b5, b6⟩ := Q
    have hκ := kK_le (T := T) (L := L) (k := k)
    have sb := sb_all (n := n) (A := A) (J := J) (t := (false, true)) b2 hκ b3 b4 h4 h5 h6
    rw [hK] at f sb t3 hκ hj
    have eB : sB 8 (d + 1) r 12 = 8 := by
      unfold sB; simp
    rw [FO_0 (by decide) (by rw [eB]; decide) hk (fun y => absurd y (by decide))] at f
    rw [eB] at sb
    have kz : nI 12 ≠ 0 := by decide
    obtain ⟨A1, gr, g1, g2, g3⟩ := tk_close_37 (n := n) (I := Iv) (A := A) (J := J) (t := (false, true)) (s := 8) (w := w) (σ := σ) (j := j) (d := d) ⟨hn, h4, h3, h7, hw, hs, hj.1, hj.2.1, hj.2.2⟩ sb hq h5
    have g1' : pb_X4_take_33_tFx n Iv A J (false, true) (nI 12) := g1
    have g2' : pI_X4_take_33_tFx n Iv A J (false, true) (nI 12) = _ := g2
    have g3' : pA_X4_take_33_tFx n Iv A J (false, true) (nI 12) = _ := g3
    have st := st_go_37 (n := n) (I0 := I0) (A0 := A0) (J := J) (t := t) (x1 := x1) (Nat.le_of_lt hk) hv ha t3 kz f g1'
    rw [g2', g3'] at st
    refine ⟨_, A1, gr, ⟨fun _ => st, fun h => absurd h (by decide)⟩, (gr.1 32 (by decide) (by decide)).trans h32, ((cu_n (by decide)).trans ((cu_n (by decide)).trans ((cu_n (by decide)).trans ((cu_n (by decide)).trans ((cu_n (by decide)).trans (h1)))))), ((cu_n (by decide)).trans ((cu_n (by decide)).trans ((cu_n (by decide)).trans ((cu_n (by decide)).trans ((cu_n (by decide)).trans (h2)))))), ((cu_n (by decide)).trans ((cu_n (by decide)).trans ((cu_n (by decide)).trans ((cu_n (by decide)).trans (cu_s))))), (cu_s), ((cu_n (by decide)).trans ((cu_n (by decide)).trans ((cu_n (by decide)).trans (cu_s)))), ((cu_n (by decide)).trans ((cu_n (by decide)).trans ((cu_n (by decide)).trans ((cu_n (by decide)).trans ((cu_n (by decide)).trans (h8)))))), ((cu_n (by decide)).trans (cu_s)), ((cu_n (by decide)).trans ((cu_n (by decide)).trans ((cu_n (by decide)).trans ((cu_n (by decide)).trans ((cu_n (by decide)).trans (h6)))))), ((cu_n (by decide)).trans ((cu_n (by decide)).trans ((cu_n (by decide)).trans ((cu_n (by decide)).trans ((cu_n (by decide)).trans (hth)))))), ((cu_n (by decide)).trans ((cu_n (by decide)).trans ((cu_n (by decide)).trans ((cu_n (by decide)).trans ((cu_n (by decide)).trans (hfi)))))), ((cu_n (by decide)).trans ((cu_n (by decide)).trans ((cu_n (by decide)).trans ((cu_n (by decide)).trans ((cu_n (by decide)).trans (hbe)))))), ((cu_n (by decide)).trans ((cu_n (by decide)).trans ((cu_n (by decide)).trans ((cu_n (by decide)).trans ((cu_n (by decide)).trans (hwr)))))), by decide, by decide, by omega, b4, b5, b6⟩
  · obtain ⟨ha, Q⟩ := cl_pre (n := n) (J := J) (t := (true, true)) (Or.inr rfl) hn hL C
    have f := fo_n_60 (n := n) (J := J) (Nat.le_of_lt hk) Q
    generalize hv : pI_X7_advance_34_txT n I A J (true, true) = Iv at *
    obtain ⟨h32, h1, h2, t3, t4, t5, h4, h3, h7, h8, h5, h6, hth, hfi, hbe, hwr, b1, b2, b3, b4, b5, b6⟩ := Q
    have hκ := kK_le (T := T) (L := L) (k := k)
    have sb := sb_all (n := n) (A := A) (J := J) (t := (true, true)) b2 hκ b3 b4 h4 h5 h6
    rw [hK] at f sb t3 hκ hj
    have eB : sB 8 (d + 1) r 12 = 8 := by
      unfold sB; simp
    rw [FO_0 (by decide) (by rw [eB]; decide) hk (fun y => absurd y (by decide))] at f
    rw [eB] at sb
    have kz : nI 12 ≠ 0 := by decide
    obtain ⟨A1, gr, g1, g2, g3⟩ := tk_close_60 (n := n) (I := Iv) (A := A) (J := J) (t := (true, true)) (s := 8) (w := w) (σ := σ) (j := j) (d := d) ⟨hn, h4, h3, h7, hw, hs, hj.1, hj.2.1, hj.2.2⟩ sb hq h5
    have g1' : pb_X4_take_33_tTx n Iv A J (true, true) (nI 12) := g1
    have g2' : pI_X4_take_33_tTx n Iv A J (true, true) (nI 12) = _ := g2
    have g3' : pA_X4_take_33_tTx n Iv A J (true, true) (nI 12) = _ := g3
    have st := st_go_60 (n := n) (I0 := I0) (A0 := A0) (J := J) (t := t) (x1 := x1) (Nat.le_of_lt hk) hv ha t3 kz f g1'
    rw [g2', g3'] at st
    refine ⟨_, A1, gr, ⟨fun h => absurd h (by decide), fun _ => st⟩, (gr.1 32 (by decide) (by decide)).trans h32, ((cu_n (by decide)).trans ((cu_n (by decide)).trans ((cu_n (by decide)).trans ((cu_n (by decide)).trans ((cu_n (by decide)).trans (h1)))))), ((cu_n (by decide)).trans ((cu_n (by decide)).trans ((cu_n (by decide)).trans ((cu_n (by decide)).trans ((cu_n (by decide)).trans (h2)))))), ((cu_n (by decide)).trans ((cu_n (by decide)).trans ((cu_n (by decide)).trans ((cu_n (by decide)).trans (cu_s))))), (cu_s), ((cu_n (by decide)).trans ((cu_n (by decide)).trans ((cu_n (by decide)).trans (cu_s)))), ((cu_n (by decide)).trans ((cu_n (by decide)).trans ((cu_n (by decide)).trans ((cu_n (by decide)).trans ((cu_n (by decide)).trans (h8)))))), ((cu_n (by decide)).trans (cu_s)), ((cu_n (by decide)).trans ((cu_n (by decide)).trans ((cu_n (by decide)).trans ((cu_n (by decide)).trans ((cu_n (by decide)).trans (h6)))))), ((cu_n (by decide)).trans ((cu_n (by decide)).trans ((cu_n (by decide)).trans ((cu_n (by decide)).trans ((cu_n (by decide)).trans (hth)))))), ((cu_n (by decide)).trans ((cu_n (by decide)).trans ((cu_n (by decide)).trans ((cu_n (by decide)).trans ((cu_n (by decide)).trans (hfi)))))), ((cu_n (by decide)).trans ((cu_n (by decide)).trans ((cu_n (by decide)).trans ((cu_n (by decide)).trans ((cu_n (by decide)).trans (hbe)))))), ((cu_n (by decide)).trans ((cu_n (by decide)).trans ((cu_n (by decide)).trans ((cu_n (by decide)).trans ((cu_n (by decide)).trans (hwr)))))), by decide, by decide, by omega, b4, b5, b6⟩
theorem cl_and {j : Nat} (hc : c = 37 ∨ c = 60) (hn : 2100 ≤ n) (hL : L ≤ 2000) (hk : k < 400) (C : CI c T L k 8 w σ z 0 1 th fi be wr I A) (hK : kK T L k = 19) (hj : RJ A (nI (kK T L k)) w j) (hw : w ≤ 22) (hs : σ + j ≤ 400) : ∃ I' A1, rf c w σ j A A1 ∧ CR c n I0 A0 J t x1 k I A (k + 1) I' A1 ∧ CI c T L (k + 1) 7 (w - j) (σ + j) z 0 0 th fi be wr I' A1 := by
  rcases hc with rfl | rfl
  · obtain ⟨ha, Q⟩ := cl_pre (n := n) (J := J) (t := (false, true)) (Or.inl rfl) hn hL C
    have f := fo_n_37 (n := n) (J := J) (Nat.le_of_lt hk) Q
    generalize hv : pI_X7_advance_34_txT n I A J (false, true) = Iv at *
    obtain ⟨h32, h1, h2, t3, t4, t5, h4, h3, h7, h8, h5, h6, hth, hfi, hbe, hwr, b1, b2, b3, b4, b5, b6⟩ := Q
    have hκ := kK_le (T := T) (L := L) (k := k)
    have sb := sb_all (n := n) (A := A) (J := J) (t := (false, true)) b2 hκ b3 b4 h4 h5 h6
    rw [hK] at f sb t3 hκ hj
    rw [FO_0 (by decide) (by decide) hk (fun y => absurd y (by decide))] at f
    have kz : nI 19 ≠ 0 := by decide
    obtain ⟨A1, gr, g1, g2, g3⟩ := tk_and_37 (n := n) (I := Iv) (A := A) (J := J) (t := (false, true)) (s := 7) (w := w) (σ := σ) (j := j) ⟨hn, h4, h3, h7, hw, hs, hj.1, hj.2.1, hj.2.2⟩ sb
    have g1' : pb_X4_take_33_tFx n Iv A J (false, true) (nI 19) := g1
    have g2' : pI_X4_take_33_tFx n Iv A J (false, true) (nI 19) = _ := g2
    have g3' : pA_X4_take_33_tFx n Iv A J (false, true) (nI 19) = _ := g3
    have st := st_go_37 (n := n) (I0 := I0) (A0 := A0) (J := J) (t := t) (x1 := x1) (Nat.le_of_lt hk) hv ha t3 kz f g1'
    rw [g2', g3'] at st
    refine ⟨_, A1, gr, ⟨fun _ => st, fun h => absurd h (by decide)⟩, (gr.1 32 (by decide) (by decide)).trans h32, ((cu_n (by decide)).trans ((cu_n (by decide)).trans ((cu_n (by decide)).trans ((cu_n (by decide)).trans (h1))))), ((cu_n (by decide)).trans ((cu_n (by decide)).trans ((cu_n (by decide)).trans ((cu_n (by decide)).trans (h2))))), ((cu_n (by decide)).trans ((cu_n (by decide)).trans ((cu_n (by decide)).trans (cu_s)))), ((cu_n (by decide)).trans (cu_s)), ((cu_n (by decide)).trans ((cu_n (by decide)).trans (cu_s))), ((cu_n (by decide)).trans ((cu_n (by decide)).trans ((cu_n (by decide)).trans ((cu_n (by decide)).trans (h8))))), ((cu_n (by decide)).trans ((cu_n (by decide)).trans ((cu_n (by decide)).trans ((cu_n (by decide)).trans (h5))))), (cu_s), ((cu_n (by decide)).trans ((cu_n (by decide)).trans ((cu_n (by decide)).trans ((cu_n (by decide)).trans (hth))))), ((cu_n (by decide)).trans ((cu_n (by decide)).trans ((cu_n (by decide)).trans ((cu_n (by decide)).trans (hfi))))), ((cu_n (by decide)).trans ((cu_n (by decide)).trans ((cu_n (by decide)).trans ((cu_n (by decide)).trans (hbe))))), ((cu_n (by decide)).trans ((cu_n (by decide)).trans ((cu_n (by decide)).trans ((cu_n (by decide)).trans (hwr))))), by decide, by decide, by omega, by omega, b5, b6⟩
  · obtain ⟨ha, Q⟩ := cl_pre (n := n) (J := J) (t := (true, true)) (Or.inr rfl) hn hL C
    have f := fo_n_60 (n := n) (J := J) (Nat.le_of_lt hk) Q
    generalize hv : pI_X7_advance_34_txT n I A J (true, true) = Iv at *
    obtain ⟨h32, h1, h2, t3, t4, t5, h4, h3, h7, h8, h5, h6, hth, hfi, hbe, hwr, b1, b2, b3, b4, b5, b6⟩ := Q
    have hκ := kK_le (T := T) (L := L) (k := k)
    have sb := sb_all (n := n) (A := A) (J := J) (t := (true, true)) b2 hκ b3 b4 h4 h5 h6
    rw [hK] at f sb t3 hκ hj
    rw [FO_0 (by decide) (by decide) hk (fun y => absurd y (by decide))] at f
    have kz : nI 19 ≠ 0 := by decide
    obtain ⟨A1, gr, g1, g2, g3⟩ := tk_and_60 (n := n) (I := Iv) (A := A) (J := J) (t := (true, true)) (s := 7) (w := w) (σ := σ) (j := j) ⟨hn, h4, h3, h7, hw, hs, hj.1, hj.2.1, hj.2.2⟩ sb
    have g1' : pb_X4_take_33_tTx n Iv A J (true, true) (nI 19) := g1
    have g2' : pI_X4_take_33_tTx n Iv A J (true, true) (nI 19) = _ := g2
    have g3' : pA_X4_take_33_tTx n Iv A J (true, true) (nI 19) = _ := g3
    have st := st_go_60 (n := n) (I0 := I0) (A0 := A0) (J := J) (t := t) (x1 := x1) (Nat.le_of_lt hk) hv ha t3 kz f g1'
    rw [g2', g3'] at st
    refine ⟨_, A1, gr, ⟨fun h => absurd h (by decide), fun _ => st⟩, (gr.1 32 (by decide) (by decide)).trans h32, ((cu_n (by decide)).trans ((cu_n (by decide)).trans ((cu_n (by decide)).trans ((cu_n (by decide)).trans (h1))))), ((cu_n (by decide)).trans ((cu_n (by decide)).trans ((cu_n (by decide)).trans ((cu_n (by decide)).trans (h2))))), ((cu_n (by decide)).trans ((cu_n (by decide)).trans ((cu_n (by decide)).trans (cu_s)))), ((cu_n (by decide)).trans (cu_s)), ((cu_n (by decide)).trans ((cu_n (by decide)).trans (cu_s))), ((cu_n (by decide)).trans ((cu_n (by decide)).trans ((cu_n (by decide)).trans ((cu_n (by decide)).trans (h8))))), ((cu_n (by decide)).trans ((cu_n (by decide)).trans ((cu_n (by decide)).trans ((cu_n (by decide)).trans (h5))))), (cu_s), ((cu_n (by decide)).trans ((cu_n (by decide)).trans ((cu_n (by decide)).trans ((cu_n (by decide)).trans (hth))))), ((cu_n (by decide)).trans ((cu_n (by decide)).trans ((cu_n (by decide)).trans ((cu_n (by decide)).trans (hfi))))), ((cu_n (by decide)).trans ((cu_n (by decide)).trans ((cu_n (by decide)).trans ((cu_n (by decide)).trans (hbe))))), ((cu_n (by decide)).trans ((cu_n (by decide)).trans ((cu_n (by decide)).trans ((cu_n (by decide)).trans (hwr))))), by decide, by decide, by omega, by omega, b5, b6⟩
theorem cl_end {j : Nat} (hc : c = 37 ∨ c = 60) (hn : 2100 ≤ n) (hL : L ≤ 2000) (hk : k < 400) (C : CI c T L k 8 w σ z 0 1 th fi be wr I A) (hK : kK T L k = 3) (hj : RJ A (nI (kK T L k)) w j) (hw : w ≤ 22) (hs : σ + j ≤ 400) (hq : w - j = 0) : ∃ I' A1, rf c w σ j A A1 ∧ CR c n I0 A0 J t x1 k I A (k + 1) I' (cw_u (cw_u (cw_u (cw_u A1 (c + 1) z th) (c + 2) z fi) (c + 3) z be) (c + 4) z (nI (σ + j))) ∧ C0 c T L (k + 1) (σ + j) (z + 1) wr I' (cw_u (cw_u (cw_u (cw_u A1 (c + 1) z th) (c + 2) z fi) (c + 3) z be) (c + 4) z (nI (σ + j))) := by
  rcases hc with rfl | rfl
  · obtain ⟨ha, Q⟩ := cl_pre (n := n) (J := J) (t := (false, true)) (Or.inl rfl) hn hL C
    have f := fo_n_37 (n := n) (J := J) (Nat.le_of_lt hk) Q
    generalize hv : pI_X7_advance_34_txT n I A J (false, true) = Iv at *
    obtain ⟨h32, h1, h2, t3, t4, t5, h4, h3, h7, h8, h5, h6, hth, hfi, hbe, hwr, b1, b2, b3, b4, b5, b6⟩ := Q
    have hκ := kK_le (T := T) (L := L) (k := k)
    have sb := sb_all (n := n) (A := A) (J := J) (t := (false, true)) b2 hκ b3 b4 h4 h5 h6
    rw [hK] at f sb t3 hκ hj
    rw [FO_0 (by decide) (by decide) hk (fun y => absurd y (by decide))] at f
    have kz : nI 3 ≠ 0 := by decide
    obtain ⟨A1, gr, g1, g2, g3⟩ := tk_end_37 (n := n) (I := Iv) (A := A) (J := J) (t := (false, true)) (s := 0) (w := w) (σ := σ) (j := j) (z := z) ⟨hn, h4, h3, h7, hw, hs, hj.1, hj.2.1, hj.2.2⟩ sb h8 b6 (by rw [hth]; exact b5)
    rw [hth, hfi, hbe] at g3
    rw [hq] at g2
    have g1' : pb_X4_take_33_tFx n Iv A J (false, true) (nI 3) := g1
    have g2' : pI_X4_take_33_tFx n Iv A J (false, true) (nI 3) = _ := g2
    have g3' : pA_X4_take_33_tFx n Iv A J (false, true) (nI 3) = _ := g3
    have st := st_go_37 (n := n) (I0 := I0) (A0 := A0) (J := J) (t := t) (x1 := x1) (Nat.le_of_lt hk) hv ha t3 kz f g1'
    rw [g2', g3'] at st
    refine ⟨_, A1, gr, ⟨fun _ => st, fun h => absurd h (by decide)⟩, (cw_u_c _ _ (by decide)).trans ((cw_u_c _ _ (by decide)).trans ((cw_u_c _ _ (by decide)).trans ((cw_u_c _ _ (by decide)).trans ((gr.1 32 (by decide) (by decide)).trans h32)))), ((cu_n (by decide)).trans ((cu_n (by decide)).trans ((cu_n (by decide)).trans ((cu_n (by decide)).trans (h1))))), ((cu_n (by decide)).trans ((cu_n (by decide)).trans ((cu_n (by decide)).trans ((cu_n (by decide)).trans (h2))))), ((cu_n (by decide)).trans ((cu_n (by decide)).trans ((cu_n (by decide)).trans (cu_s)))), ((cu_n (by decide)).trans (cu_s)), ((cu_n (by decide)).trans ((cu_n (by decide)).trans (cu_s))), (cu_s), ((cu_n (by decide)).trans ((cu_n (by decide)).trans ((cu_n (by decide)).trans ((cu_n (by decide)).trans (hwr))))), by omega⟩
  · obtain ⟨ha, Q⟩ := cl_pre (n := n) (J := J) (t := (true, true)) (Or.inr rfl) hn hL C
    have f := fo_n_60 (n := n) (J := J) (Nat.le_of_lt hk) Q
    generalize hv : pI_X7_advance_34_txT n I A J (true, true) = Iv at *
    obtain ⟨h32, h1, h2, t3, t4, t5, h4, h3, h7, h8, h5, h6, hth, hfi, hbe, hwr, b1, b2, b3, b4, b5, b6⟩ := Q
    have hκ := kK_le (T := T) (L := L) (k := k)
    have sb := sb_all (n := n) (A := A) (J := J) (t := (true, true)) b2 hκ b3 b4 h4 h5 h6
    rw [hK] at f sb t3 hκ hj
    rw [FO_0 (by decide) (by decide) hk (fun y => absurd y (by decide))] at f
    have kz : nI 3 ≠ 0 := by decide
    obtain ⟨A1, gr, g1, g2, g3⟩ := tk_end_60 (n := n) (I := Iv) (A := A) (J := J) (t := (true, true)) (s := 0) (w := w) (σ := σ) (j := j) (z := z) ⟨hn, h4, h3, h7, hw, hs, hj.1, hj.2.1, hj.2.2⟩ sb h8 b6 (by rw [hth]; exact b5)
    rw [hth, hfi, hbe] at g3
    rw [hq] at g2
    have g1' : pb_X4_take_33_tTx n Iv A J (true, true) (nI 3) := g1
    have g2' : pI_X4_take_33_tTx n Iv A J (true, true) (nI 3) = _ := g2
    have g3' : pA_X4_take_33_tTx n Iv A J (true, true) (nI 3) = _ := g3
    have st := st_go_60 (n := n) (I0 := I0) (A0 := A0) (J := J) (t := t) (x1 := x1) (Nat.le_of_lt hk) hv ha t3 kz f g1'
    rw [g2', g3'] at st
    refine ⟨_, A1, gr, ⟨fun h => absurd h (by decide), fun _ => st⟩, (cw_u_c _ _ (by decide)).trans ((cw_u_c _ _ (by decide)).trans ((cw_u_c _ _ (by decide)).trans ((cw_u_c _ _ (by decide)).trans ((gr.1 32 (by decide) (by decide)).trans h32)))), ((cu_n (by decide)).trans ((cu_n (by decide)).trans ((cu_n (by decide)).trans ((cu_n (by decide)).trans (h1))))), ((cu_n (by decide)).trans ((cu_n (by decide)).trans ((cu_n (by decide)).trans ((cu_n (by decide)).trans (h2))))), ((cu_n (by decide)).trans ((cu_n (by decide)).trans ((cu_n (by decide)).trans (cu_s)))), ((cu_n (by decide)).trans (cu_s)), ((cu_n (by decide)).trans ((cu_n (by decide)).trans (cu_s))), (cu_s), ((cu_n (by decide)).trans ((cu_n (by decide)).trans ((cu_n (by decide)).trans ((cu_n (by decide)).trans (hwr))))), by omega⟩
end Cl
