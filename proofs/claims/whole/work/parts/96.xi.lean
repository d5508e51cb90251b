/-! the reference's tokens: all of them -/
theorem cu_n {α : Type} {f : Nat → Nat → α} {c k a b : Nat} {x : α} (h : ¬ (a = c ∧ b = k)) : cw_u f c k x a b = f a b := if_neg h
/-- c tokens of the text stand in the rows -/
def cx_ok (T : Nat → Int32) (L c : Nat) (A : Nat → Nat → Int32) : Prop := ∀ q, q < c → cz_m (tz_k T L (cz_s T L q)) (A 71 q) ∧ A 72 q = nI (tz_p T L (cz_s T L q)) ∧ (tz_k T L (cz_s T L q) = 2 → A 73 q = tz_v T L (cz_s T L q))
section Cut4
variable {n L : Nat} {T : Nat → Int32} {I A : Nat → Nat → Int32} {J : Nat → Nat → Int64} {t : Bool × Bool}
theorem cx_put {I7 A7 : Nat → Nat → Int32} {J7 : Nat → Nat → Int64} {c : Nat} {r v x : Int32} {w : Int64} (h10 : I7 68 10 = nI c) (hc : c ≤ 400) (ok : cx_ok T L c A7) (hk : cz_m (tz_k T L (cz_s T L c)) r) (hp : x = nI (tz_p T L (cz_s T L c))) (hv : tz_k T L (cz_s T L c) = 2 → v = tz_v T L (cz_s T L c)) :
    cx_ok T L (c + 1) (pA_X12_token_68 n I7 A7 J7 t r x v w) := by
  intro q hq
  unfold pA_X12_token_68 qA29_X12_token_68 qA19_X12_token_68 qA9_X12_token_68
  rw [h10, nI_clamp (by omega)]
  by_cases e : q = c
  · subst e
    refine ⟨?_, ?_, ?_⟩
    · rw [cu_n (by simp), cu_n (by simp), cw_u_s]; exact hk
    · rw [cu_n (by simp), cw_u_s]; exact hp
    · intro z; rw [cw_u_s]; exact hv z
  · have o := ok q (by omega)
    refine ⟨?_, ?_, ?_⟩
    · rw [cu_n (by simp), cu_n (by simp), cu_n (by simp [e])]; exact o.1
    · rw [cu_n (by simp), cu_n (by simp [e]), cu_n (by simp)]; exact o.2.1
    · intro z; rw [cu_n (by simp [e]), cu_n (by simp), cu_n (by simp)]; exact o.2.2 z
theorem cx_cut (hn : 2100 ≤ n) (hL : L ≤ 2000) (hb : ∀ j, j < L → -128 ≤ (T j).toInt ∧ (T j).toInt ≤ 127) : ∀ (d i c f : Nat) (I7 A7 : Nat → Nat → Int32) (J7 : Nat → Nat → Int64), i + d = L → d < f → I7 68 4 = nI L → I7 68 10 = nI c → c ≤ 401 → A7 70 = T → J7 75 = cw_J0 75 → tz_p T L (cz_s T L c) = tz_p T L i → cx_ok T L c A7 → (∀ q, q < c → tz_k T L (cz_s T L q) ≠ 0) →
    lb_X12_cut_68_7 n I A J t f I7 A7 J7 (nI i) ∧ ∃ C, C ≤ 401 ∧ (lp_X12_cut_68_7 n I A J t f I7 A7 J7 (nI i)).1 68 10 = nI C ∧ cx_ok T L C (lp_X12_cut_68_7 n I A J t f I7 A7 J7 (nI i)).2.1 ∧ (∀ q, q + 1 < C → tz_k T L (cz_s T L q) ≠ 0) ∧ (C = 401 ∨ (1 ≤ C ∧ tz_k T L (cz_s T L (C - 1)) = 0)) := by
  intro d
  induction d using Nat.strongRecOn with
  | _ d ih =>
  intro i c f I7 A7 J7 hi hf h4 h10 hc h70 h75 hp ok nz
  obtain ⟨f, rfl⟩ : ∃ g, f = g + 1 := ⟨f - 1, by omega⟩
  have hb7 : ∀ j, j < L → -128 ≤ (A7 70 j).toInt ∧ (A7 70 j).toInt ≤ 127 := by rw [h70]; exact hb
  unfold lb_X12_cut_68_7 lp_X12_cut_68_7
  rw [h10, h4]
  by_cases c4 : 400 < c
  · have z : (400 : Int32) < nI c := nI_lt (a := 400) c4 (by omega)
    rw [if_pos z]
    refine ⟨fun y => absurd z y, c, hc, h10, ok, fun q hq => nz q (by omega), Or.inl (by omega)⟩
  · have z : ¬ (400 : Int32) < nI c := nI_nlt (Nat.le_of_not_lt c4) (by decide)
    rw [if_neg z]
    by_cases c5 : i < L
    · have z5 : nI i < nI L := nI_lt c5 (by omega)
      rw [if_pos z5]
      have at0 := cz_at (n := n) (A7 := A7) (J7 := J7) (t := t) (i := i) hL (by omega) h4
      by_cases b : tz_bl (A7 70 i) = true
      · have w := cx_blank (n := n) (I := I) (A := A) (J := J) (J7 := J7) (t := t) hL c5 h4 hb7 b
        rw [w.1, w.2.1, w.2.2.1, w.2.2.2.1]
        have r := ih (d - 1) (by omega) (i + 1) c f I7 A7 J7 (by omega) (by omega) h4 h10 hc h70 h75 (by rw [hp]; rw [h70] at b; exact tz_run_y c5 b) ok nz
        refine ⟨fun _ => ⟨at0.1, fun _ => ⟨fun a1 a2 a3 a4 => absurd ⟨a1, a2, a3, a4⟩ w.2.2.2.2, r.1⟩, fun y => absurd z5 y⟩, r.2⟩
      · obtain ⟨⟨r, v, u, w1, w2, w3, w4, w5⟩, w6, w7, w8⟩ := cx_tok (n := n) (I := I) (A := A) (J := J) (t := t) hn hL c5 h4 hb7 h75 b h10 (by omega)
        rw [h70] at b w4 w5 w6
        have pj := cx_pj c5 b
        have pp : tz_p T L i = i := cx_pp b
        have kk := cx_k (hp.trans rfl : tz_p T L (cz_s T L c) = tz_p T L i)
        rw [w1, w2, w3, w6]
        have ok' := cx_put (n := n) (t := t) (J7 := J7) (w := u) h10 (by omega) ok (by rw [kk.1]; exact w4) (x := nI i) (by rw [hp, pp]) (by rw [kk.1, kk.2.1]; exact w5)
        have r := ih (L - tz_j T L i) (by omega) (tz_j T L i) (c + 1) f (pI_X12_token_68 n I7 A7 J7 t r (nI i) v u) (pA_X12_token_68 n I7 A7 J7 t r (nI i) v u) (pJ_X12_token_68 n I7 A7 J7 t r (nI i) v u) (by omega) (by omega)
          (by unfold pI_X12_token_68 qI48_X12_token_68; rw [cu_n (by simp)]; exact h4)
          (by unfold pI_X12_token_68 qI48_X12_token_68; rw [cw_u_s, h10]; exact nI_1 c) (by omega)
          (by
            unfold pA_X12_token_68 qA29_X12_token_68 qA19_X12_token_68 qA9_X12_token_68
            funext j
            rw [cu_n (by simp), cu_n (by simp), cu_n (by simp), h70])
          (by
            unfold pJ_X12_token_68 qJ40_X12_token_68
            funext j
            rw [cu_n (by simp), h75])
          (by show tz_p T L (tz_j T L (cz_s T L c)) = _; rw [kk.2.2]) ok' (by
            intro q hq
            by_cases e : q = c
            · subst e; rw [kk.1]; exact pj.2.2
            · exact nz q (by omega))
        exact ⟨fun _ => ⟨at0.1, fun _ => ⟨fun _ _ _ _ => ⟨w7, w8⟩, r.1⟩, fun y => absurd z5 y⟩, r.2⟩
    · have z5 : ¬ nI i < nI L := nI_nlt (Nat.le_of_not_lt c5) (by omega)
      rw [if_neg z5]
      have at0 := cz_at (n := n) (A7 := A7) (J7 := J7) (t := t) (i := i) hL (by omega) h4
      have iL : i = L := by omega
      subst iL
      have pp : tz_p T i i = i := tz_run_n fun z => by omega
      have kk : tz_k T i (cz_s T i c) = 0 := by
        unfold tz_k
        rw [hp, pp, if_pos (Nat.le_refl _)]
      refine ⟨fun _ => ⟨at0.1, fun y => absurd y z5, fun _ => ?_⟩, c + 1, by omega, ?_, ?_, ?_, Or.inr ⟨by omega, kk⟩⟩
      · unfold pb_X12_token_68
        rw [h10]
        have z : vp_in (nI c) 403 := vp_in_nI (by omega) (by decide)
        exact ⟨z, z, z, z⟩
      · show pI_X12_token_68 n I7 A7 J7 t 0 (nI i) 0 0 68 10 = _
        unfold pI_X12_token_68 qI48_X12_token_68; rw [cw_u_s, h10]; exact nI_1 c
      · exact cx_put (n := n) (t := t) (J7 := J7) (w := 0) h10 (by omega) ok (by rw [kk]; exact Or.inr ⟨by decide, rfl⟩) (x := nI i) (by rw [hp, pp]) (by rw [kk]; intro z; exact absurd z (by decide))
      · intro q hq; exact nz q (by omega)
theorem cx_all (hn : 2100 ≤ n) (hL : L ≤ 2000) (hb : ∀ j, j < L → -128 ≤ (T j).toInt ∧ (T j).toInt ≤ 127) (h4 : I 68 4 = nI L) (h70 : A 70 = T) (h75 : J 75 = cw_J0 75) :
    pb_X12_cut_68 n I A J t ∧ ∃ C, 1 ≤ C ∧ C ≤ 401 ∧ pI_X12_cut_68 n I A J t 68 10 = nI C ∧ cx_ok T L C (pA_X12_cut_68 n I A J t) ∧ (∀ q, q + 1 < C → tz_k T L (cz_s T L q) ≠ 0) ∧ (C = 401 ∨ tz_k T L (cz_s T L (C - 1)) = 0) := by
  have r := cx_cut (n := n) (I := I) (A := A) (J := J) (t := t) hn hL hb L 0 0 n (qI2_X12_cut_68 n I A J t) A J (by omega) (by omega) (by unfold qI2_X12_cut_68; rw [cu_n (by simp)]; exact h4) (by unfold qI2_X12_cut_68; rw [cw_u_s]; rfl) (by omega) h70 h75 rfl (fun q hq => absurd hq (by omega)) (fun q hq => absurd hq (by omega))
  refine ⟨r.1, ?_⟩
  obtain ⟨C, a, b, c, d, e⟩ := r.2
  refine ⟨C, ?_, a, b, c, d, ?_⟩
  · rcases e with e | e
    · omega
    · exact e.1
  · rcases e with e | e
    · exact Or.inl e
    · exact Or.inr e.2
end Cut4
