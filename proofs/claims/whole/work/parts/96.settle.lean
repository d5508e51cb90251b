/-! the class writes an hour of its plan -/
def se_done (ok : Nat → Nat → Bool) (g : Nat → Nat → Nat) (M P : Nat) (hd : Nat → Nat) (am : Nat → Nat → Int32) (hr : Nat) (A C : Nat → Nat → Int32) (p : Nat) : Prop :=
  (∀ q, q < p → C 54 (10 * hr + q) = sv_ch ok g M P q (sv_U ok g M P q) ∧ (sv_ch ok g M P q (sv_U ok g M P q) = -1 → C 55 (10 * hr + q) = -1 ∧ C 56 (10 * hr + q) = -1 ∧ C 57 (10 * hr + q) = 0) ∧ ∀ m, m < M → sv_ch ok g M P q (sv_U ok g M P q) = nI m → C 55 (10 * hr + q) = A 48 (6 * q + m) ∧ C 56 (10 * hr + q) = am q m ∧ C 57 (10 * hr + q) = A 49 (6 * q + m)) ∧
  (∀ q, p ≤ q → q < 10 → C 54 (10 * hr + q) = -1 ∧ C 55 (10 * hr + q) = -1 ∧ C 56 (10 * hr + q) = -1 ∧ C 57 (10 * hr + q) = 0) ∧
  (∀ m, m < 6 → C 58 (6 * hr + m) = sv_W ok g M P am p m) ∧ C 59 hr = nI (sv_H ok g M P hd p) ∧
  (∀ x, (x < 10 * hr ∨ 10 * hr + 10 ≤ x) → C 54 x = A 54 x ∧ C 55 x = A 55 x ∧ C 56 x = A 56 x ∧ C 57 x = A 57 x) ∧
  (∀ x, (x < 6 * hr ∨ 6 * hr + 6 ≤ x) → C 58 x = A 58 x) ∧ ∀ x, ¬ x = hr → C 59 x = A 59 x
section Settle
variable {n M P hr : Nat} {I A Ac : Nat → Nat → Int32} {J : Nat → Nat → Int64} {t : Bool × Bool} {ok : Nat → Nat → Bool} {g : Nat → Nat → Nat} {hd : Nat → Nat} {am : Nat → Nat → Int32}
theorem se_put {C : Nat → Nat → Int32} {p m : Nat} {x4 x5 x6 : Int32} (hh : hr < 24) (hp : p < 10) (hm : m < 6) : pb_X5_put_53 n I C J t (nI hr) (nI p) (nI m) x4 x5 x6 ∧ pA_X5_put_53 n I C J t (nI hr) (nI p) (nI m) x4 x5 x6 = cw_u (cw_u (cw_u (cw_u (cw_u C 54 (10 * hr + p) (nI m)) 55 (10 * hr + p) x4) 56 (10 * hr + p) x5) 57 (10 * hr + p) x6) 58 (6 * hr + m) x5 := by
  have e6 : q6_X5_put_53 n I C J t (nI hr) (nI p) (nI m) x4 x5 x6 = nI (10 * hr + p) := sl_ix hr p
  have ix : nI hr * 6 + nI m = nI (6 * hr + m) := by
    have : (6 : Int32) = nI 6 := rfl
    rw [this, pk_mul, nI_add, Nat.mul_comm]
  have v1 : vp_in (nI (10 * hr + p)) 240 := vp_in_nI (by omega) (by decide)
  unfold pb_X5_put_53 pA_X5_put_53 qA55_X5_put_53 qA42_X5_put_53 qA33_X5_put_53 qA24_X5_put_53 qA15_X5_put_53
  rw [e6, ix, nI_clamp (by omega), nI_clamp (by omega)]
  exact ⟨⟨v1, v1, v1, v1, vp_in_nI (by omega) (by decide)⟩, rfl⟩
set_option maxHeartbeats 1000000 in
theorem se_loop (hn : 100 ≤ n) (M6 : M ≤ 6) (P10 : P ≤ 10) (hh : hr < 24) (h12 : I 12 3 = nI P) (h50 : ∀ p, p < P → A 50 p = sv_ch ok g M P p (sv_U ok g M P p)) (hl : ∀ p, p < P → ∃ l, l < 8 ∧ A 13 p = nI l ∧ A 4 l = nI (hd p)) (hs : ∀ i, i < 6 → ∃ s, s < 4 ∧ A 10 i = nI s) (ham : ∀ p m, p < P → m < M → am p m = px_X9_aimTo_5_1 n I A J t (A 10 m) (A 13 p)) (hpb : ∀ C s l, (∀ d, d < 32 → C d = A d) → s < 4 → l < 8 → pb_X9_aimTo_5_1 n I C J t (nI s) (nI l)) (hH : ∀ p, hd p ≤ 10000) :
    ∀ (d p f : Nat) (C : Nat → Nat → Int32), p + d = P → d < f → (∀ c, c < 54 → C c = A c) → se_done ok g M P hd am hr A C p →
    lb_X11_settle_0_2 n I Ac J t (nI hr) f C (nI p) ∧ se_done ok g M P hd am hr A (lp_X11_settle_0_2 n I Ac J t (nI hr) f C (nI p)).1 P := by
  intro d
  induction d with
  | zero =>
    intro p f C hk hf ha hD
    obtain ⟨f, rfl⟩ : ∃ x, f = x + 1 := ⟨f - 1, by omega⟩
    have : p = P := by omega
    subst this
    have c : nI p ≤ nI p := nI_le (Nat.le_refl _) (by omega)
    unfold lb_X11_settle_0_2 lp_X11_settle_0_2
    rw [h12, if_pos c]
    exact ⟨fun z => absurd c z, hD⟩
  | succ d ih =>
    intro p f C hk hf ha hD
    obtain ⟨f, rfl⟩ : ∃ x, f = x + 1 := ⟨f - 1, by omega⟩
    have c : ¬ nI P ≤ nI p := nI_ge (by omega) (by omega)
    have cp : (nI p).toNatClampNeg = p := nI_clamp (by omega)
    have vp : vp_in (nI p) 10 := vp_in_nI (by omega) (by decide)
    have e21 : q21_X11_settle_0 n I Ac J t (nI hr) C (nI p) = sv_ch ok g M P p (sv_U ok g M P p) := by
      unfold q21_X11_settle_0 px_X3_mastFor_46
      rw [cp, ha 50 (by omega)]; exact h50 p (by omega)
    have e107 : q107_X11_settle_0 n I Ac J t (nI hr) C (nI p) = nI (p + 1) := nI_1 p
    obtain ⟨D1, D2, D3, D4, D5, D6, D7⟩ := id hD
    have eW : ∀ m, sv_W ok g M P am (p + 1) m = if sv_ch ok g M P p (sv_U ok g M P p) = nI m then am p m else sv_W ok g M P am p m := fun m => rfl
    have eH : sv_H ok g M P hd (p + 1) = sv_H ok g M P hd p + (if sv_ch ok g M P p (sv_U ok g M P p) = -1 then 0 else hd p) := rfl
    unfold lb_X11_settle_0_2 lp_X11_settle_0_2
    rw [h12, if_neg c, e107]
    unfold qAm24_X11_settle_0
    rw [e21]
    rcases sv_ch_or (ok := ok) (g := g) (P := P) M6 p (sv_U ok g M P p) with ⟨h1, -⟩ | ⟨m, h1, h2, h3, h4, h5⟩
    · rw [if_pos h1]
      obtain ⟨i1, i2⟩ := ih (p + 1) f C (by omega) (by omega) ha ⟨fun q hq => by
          by_cases z : q = p
          · subst z
            obtain ⟨y1, y2, y3, y4⟩ := D2 q (Nat.le_refl _) (by omega)
            exact ⟨y1.trans h1.symm, fun _ => ⟨y2, y3, y4⟩, fun m hm y => absurd (h1.symm.trans y) (fun y => sv_n1 (by omega) y.symm)⟩
          · exact D1 q (by omega), fun q hq hq10 => D2 q (by omega) hq10, fun m hm => by
          rw [eW, if_neg (fun y => sv_n1 (by omega) (h1.symm.trans y).symm)]; exact D3 m hm, by rw [eH, if_pos h1]; exact D4, D5, D6, D7⟩
      exact ⟨fun _ => ⟨vp, fun z => absurd h1 z, i1⟩, i2⟩
    · have nn : ¬ sv_ch ok g M P p (sv_U ok g M P p) = -1 := by rw [h5]; exact sv_n1 (by omega)
      obtain ⟨l, l8, l1, l2⟩ := hl p (by omega)
      obtain ⟨s, s4, s1⟩ := hs m (by omega)
      have cm : (nI m).toNatClampNeg = m := nI_clamp (by omega)
      have vm : vp_in (nI m) 6 := vp_in_nI (by omega) (by decide)
      have e35 : q35_X11_settle_0 n I Ac J t (nI hr) C (nI p) = nI l := by
        unfold q35_X11_settle_0 px_X6_landOf_12
        rw [cp, ha 13 (by omega), l1]
      have esi : px_X2_siteOf_9 n I C J t (nI m) = nI s := by
        unfold px_X2_siteOf_9
        rw [cm, ha 10 (by omega), s1]
      have e58 : q58_X11_settle_0 n I Ac J t (nI hr) C (nI p) = am p m := by
        unfold q58_X11_settle_0
        rw [e21, h5, e35, esi, ham p m (by omega) h1, s1, l1]
        exact sc_aim (ha 2 (by omega)) (ha 3 (by omega)) (ha 6 (by omega)) (ha 7 (by omega))
      have ix6 : nI p * 6 + nI m = nI (6 * p + m) := by
        have : (6 : Int32) = nI 6 := rfl
        rw [this, pk_mul, nI_add, Nat.mul_comm]
      have eba : px_X3_bandOf_46 n I C J t (nI p) (nI m) = A 48 (6 * p + m) := by
        unfold px_X3_bandOf_46
        rw [ix6, nI_clamp (by omega), ha 48 (by omega)]
      have est : px_X3_strengthOf_46 n I C J t (nI p) (nI m) = A 49 (6 * p + m) := by
        unfold px_X3_strengthOf_46
        rw [ix6, nI_clamp (by omega), ha 49 (by omega)]
      have v60 : vp_in (nI (6 * p + m)) 60 := vp_in_nI (by omega) (by decide)
      obtain ⟨p1, p2⟩ := se_put (n := n) (I := I) (J := J) (t := t) (C := C) (p := p) (m := m) (x4 := A 48 (6 * p + m)) (x5 := am p m) (x6 := A 49 (6 * p + m)) hh (by omega) (by omega)
      have eli : px_X9_listenersOf_1 n I (pA_X5_put_53 n I C J t (nI hr) (nI p) (nI m) (A 48 (6 * p + m)) (am p m) (A 49 (6 * p + m))) J t (nI l) = nI (hd p) := by
        unfold px_X9_listenersOf_1
        rw [nI_clamp (by omega), fr_pA_X5_put_53 (by decide), ha 4 (by omega), l2]
      have ch : (nI hr).toNatClampNeg = hr := nI_clamp (by omega)
      have hHb : ∀ k, sv_H ok g M P hd k ≤ 10000 * k := by
        intro k
        induction k with
        | zero => exact Nat.le_refl _
        | succ k ih2 =>
          have := hH k
          show sv_H ok g M P hd k + _ ≤ _
          split <;> omega
      have ead : pA_X5_addListeners_53 n I (pA_X5_put_53 n I C J t (nI hr) (nI p) (nI m) (A 48 (6 * p + m)) (am p m) (A 49 (6 * p + m))) J t (nI hr) (nI (hd p)) = cw_u (cw_u (cw_u (cw_u (cw_u (cw_u C 54 (10 * hr + p) (nI m)) 55 (10 * hr + p) (A 48 (6 * p + m))) 56 (10 * hr + p) (am p m)) 57 (10 * hr + p) (A 49 (6 * p + m))) 58 (6 * hr + m) (am p m)) 59 hr (nI (sv_H ok g M P hd (p + 1))) := by
        unfold pA_X5_addListeners_53 qA9_X5_addListeners_53
        rw [ch, fr_pA_X5_put_53 (c := 59) (by decide), D4, nI_add, p2, eH, if_neg nn]
      rw [if_neg nn, h5, e35, e58, eba, est, eli, ead]
      obtain ⟨i1, i2⟩ := ih (p + 1) f (cw_u (cw_u (cw_u (cw_u (cw_u (cw_u C 54 (10 * hr + p) (nI m)) 55 (10 * hr + p) (A 48 (6 * p + m))) 56 (10 * hr + p) (am p m)) 57 (10 * hr + p) (A 49 (6 * p + m))) 58 (6 * hr + m) (am p m)) 59 hr (nI (sv_H ok g M P hd (p + 1)))) (by omega) (by omega) (fun c hc => by rw [cw_u_c _ _ (by omega), cw_u_c _ _ (by omega), cw_u_c _ _ (by omega), cw_u_c _ _ (by omega), cw_u_c _ _ (by omega), cw_u_c _ _ (by omega)]; exact ha c hc) (by
        have k54 : ∀ x, cw_u (cw_u (cw_u (cw_u (cw_u (cw_u C 54 (10 * hr + p) (nI m)) 55 (10 * hr + p) (A 48 (6 * p + m))) 56 (10 * hr + p) (am p m)) 57 (10 * hr + p) (A 49 (6 * p + m))) 58 (6 * hr + m) (am p m)) 59 hr (nI (sv_H ok g M P hd (p + 1))) 54 x = if x = 10 * hr + p then nI m else C 54 x := fun x => by simp [cw_u]
        have k55 : ∀ x, cw_u (cw_u (cw_u (cw_u (cw_u (cw_u C 54 (10 * hr + p) (nI m)) 55 (10 * hr + p) (A 48 (6 * p + m))) 56 (10 * hr + p) (am p m)) 57 (10 * hr + p) (A 49 (6 * p + m))) 58 (6 * hr + m) (am p m)) 59 hr (nI (sv_H ok g M P hd (p + 1))) 55 x = if x = 10 * hr + p then A 48 (6 * p + m) else C 55 x := fun x => by simp [cw_u]
        have k56 : ∀ x, cw_u (cw_u (cw_u (cw_u (cw_u (cw_u C 54 (10 * hr + p) (nI m)) 55 (10 * hr + p) (A 48 (6 * p + m))) 56 (10 * hr + p) (am p m)) 57 (10 * hr + p) (A 49 (6 * p + m))) 58 (6 * hr + m) (am p m)) 59 hr (nI (sv_H ok g M P hd (p + 1))) 56 x = if x = 10 * hr + p then am p m else C 56 x := fun x => by simp [cw_u]
        have k57 : ∀ x, cw_u (cw_u (cw_u (cw_u (cw_u (cw_u C 54 (10 * hr + p) (nI m)) 55 (10 * hr + p) (A 48 (6 * p + m))) 56 (10 * hr + p) (am p m)) 57 (10 * hr + p) (A 49 (6 * p + m))) 58 (6 * hr + m) (am p m)) 59 hr (nI (sv_H ok g M P hd (p + 1))) 57 x = if x = 10 * hr + p then A 49 (6 * p + m) else C 57 x := fun x => by simp [cw_u]
        have k58 : ∀ x, cw_u (cw_u (cw_u (cw_u (cw_u (cw_u C 54 (10 * hr + p) (nI m)) 55 (10 * hr + p) (A 48 (6 * p + m))) 56 (10 * hr + p) (am p m)) 57 (10 * hr + p) (A 49 (6 * p + m))) 58 (6 * hr + m) (am p m)) 59 hr (nI (sv_H ok g M P hd (p + 1))) 58 x = if x = 6 * hr + m then am p m else C 58 x := fun x => by simp [cw_u]
        have k59 : ∀ x, cw_u (cw_u (cw_u (cw_u (cw_u (cw_u C 54 (10 * hr + p) (nI m)) 55 (10 * hr + p) (A 48 (6 * p + m))) 56 (10 * hr + p) (am p m)) 57 (10 * hr + p) (A 49 (6 * p + m))) 58 (6 * hr + m) (am p m)) 59 hr (nI (sv_H ok g M P hd (p + 1))) 59 x = if x = hr then nI (sv_H ok g M P hd (p + 1)) else C 59 x := fun x => by simp [cw_u]
        refine ⟨fun q hq => ?_, fun q hq hq10 => ?_, fun m' hm' => ?_, by rw [k59, if_pos rfl], fun x hx => ?_, fun x hx => ?_, fun x hx => ?_⟩
        · rw [k54, k55, k56, k57]
          by_cases z : q = p
          · subst z
            rw [if_pos rfl, if_pos rfl, if_pos rfl, if_pos rfl]
            refine ⟨h5.symm, fun y => absurd y nn, fun m' hm' y => ?_⟩
            have : m' = m := (nI_eq (by omega) (by omega)).mp (y.symm.trans h5)
            subst this
            exact ⟨rfl, rfl, rfl⟩
          · have zz : ¬ 10 * hr + q = 10 * hr + p := by omega
            rw [if_neg zz, if_neg zz, if_neg zz, if_neg zz]
            exact D1 q (by omega)
        · have zz : ¬ 10 * hr + q = 10 * hr + p := by omega
          rw [k54, k55, k56, k57, if_neg zz, if_neg zz, if_neg zz, if_neg zz]
          exact D2 q (by omega) hq10
        · rw [k58, eW, h5]
          by_cases z : m' = m
          · subst z
            rw [if_pos rfl, if_pos rfl]
          · rw [if_neg (by omega), if_neg (fun y => z ((nI_eq (by omega) (by omega)).mp y).symm)]
            exact D3 m' hm'
        · have zz : ¬ x = 10 * hr + p := by omega
          rw [k54, k55, k56, k57, if_neg zz, if_neg zz, if_neg zz, if_neg zz]
          exact D5 x hx
        · rw [k58, if_neg (by omega)]
          exact D6 x hx
        · rw [k59, if_neg hx]
          exact D7 x hx)
      refine ⟨fun _ => ⟨vp, fun _ => ⟨vp, vm, ?_, ?_, ?_, p1, vp_in_nI (n := l) (by omega) (by decide), ?_, ?_⟩, i1⟩, i2⟩
      · rw [esi]
        exact hpb C s l (fun d' hd' => ha d' (by omega)) s4 l8
      · unfold pb_X3_bandOf_46
        rw [ix6]; exact v60
      · unfold pb_X3_strengthOf_46
        rw [ix6]; exact v60
      · exact vp_in_nI hh (by decide)
      · exact vp_in_nI hh (by decide)
theorem se_W {am' : Nat → Nat → Int32} (M6 : M ≤ 6) (h : ∀ p m, p < P → m < M → ok p m = true → am p m = am' p m) : ∀ p, p ≤ P → ∀ m, m < 6 → sv_W ok g M P am p m = sv_W ok g M P am' p m
  | 0, _, _, _ => rfl
  | p + 1, hp, m, hm => by
    unfold sv_W
    rw [se_W M6 h p (by omega) m hm]
    by_cases c : sv_ch ok g M P p (sv_U ok g M P p) = nI m
    · rw [if_pos c, if_pos c]
      rcases sv_ch_or (ok := ok) (g := g) (P := P) M6 p (sv_U ok g M P p) with ⟨h1, -⟩ | ⟨k, h1, h2, h3, h4, h5⟩
      · exact absurd (c.symm.trans h1) (sv_n1 (by omega))
      · have : k = m := (nI_eq (by omega) (by omega)).mp (h5.symm.trans c)
        subst this
        exact h p k (by omega) h1 h2
    · rw [if_neg c, if_neg c]
end Settle
