/-! reading on both sides: the whole -/
section Ra
variable {n : Nat} {I2 A2 : Nat → Nat → Int32} {J2 : Nat → Nat → Int64} {t2 : Bool × Bool}
theorem ro_a (h : ¬ (qIw120_X12_read_68 n I2 A2 J2 t2) 68 13 ≤ 0) : px_X12_read_68 n I2 A2 J2 t2 = (qIw120_X12_read_68 n I2 A2 J2 t2) 68 13 ∧ pI_X12_read_68 n I2 A2 J2 t2 = cw_u (qIw120_X12_read_68 n I2 A2 J2 t2) 68 17 ((qIw120_X12_read_68 n I2 A2 J2 t2) 68 14) := by
  have e : qs1m147_X12_read_68 n I2 A2 J2 t2 = (qIw120_X12_read_68 n I2 A2 J2 t2) 68 14 := if_neg h
  have e17 : qI172_X12_read_68 n I2 A2 J2 t2 = cw_u (qIw120_X12_read_68 n I2 A2 J2 t2) 68 17 ((qIw120_X12_read_68 n I2 A2 J2 t2) 68 14) := by
    unfold qI172_X12_read_68
    rw [e]
  have e13 : qI172_X12_read_68 n I2 A2 J2 t2 68 13 = (qIw120_X12_read_68 n I2 A2 J2 t2) 68 13 := by rw [e17, cu_n (by simp)]
  unfold px_X12_read_68 pI_X12_read_68
  rw [e13, if_neg h, if_neg h, e17]
  exact ⟨rfl, rfl⟩
theorem ro_b (h : (qIw120_X12_read_68 n I2 A2 J2 t2) 68 13 ≤ 0) (g : ¬ (qIw120_X12_read_68 n I2 A2 J2 t2) 68 15 ≤ 0) : px_X12_read_68 n I2 A2 J2 t2 = (qIw120_X12_read_68 n I2 A2 J2 t2) 68 15 ∧ pI_X12_read_68 n I2 A2 J2 t2 = cw_u (qIw120_X12_read_68 n I2 A2 J2 t2) 68 17 ((qIw120_X12_read_68 n I2 A2 J2 t2) 68 16) := by
  have e : qs1m147_X12_read_68 n I2 A2 J2 t2 = (qIw120_X12_read_68 n I2 A2 J2 t2) 68 16 := by
    unfold qs1m147_X12_read_68 qs1m161_X12_read_68
    rw [if_pos h, if_neg g]
  have e17 : qI172_X12_read_68 n I2 A2 J2 t2 = cw_u (qIw120_X12_read_68 n I2 A2 J2 t2) 68 17 ((qIw120_X12_read_68 n I2 A2 J2 t2) 68 16) := by
    unfold qI172_X12_read_68
    rw [e]
  have e13 : qI172_X12_read_68 n I2 A2 J2 t2 68 13 = (qIw120_X12_read_68 n I2 A2 J2 t2) 68 13 := by rw [e17, cu_n (by simp)]
  have e15 : qI172_X12_read_68 n I2 A2 J2 t2 68 15 = (qIw120_X12_read_68 n I2 A2 J2 t2) 68 15 := by rw [e17, cu_n (by simp)]
  unfold px_X12_read_68 pI_X12_read_68
  rw [e13, e15, if_pos h, if_neg g, if_pos h, if_neg g, e17]
  exact ⟨rfl, rfl⟩
theorem ro_c (h : (qIw120_X12_read_68 n I2 A2 J2 t2) 68 13 ≤ 0) (g : (qIw120_X12_read_68 n I2 A2 J2 t2) 68 15 ≤ 0) : px_X12_read_68 n I2 A2 J2 t2 = 0 ∧ pI_X12_read_68 n I2 A2 J2 t2 = cw_u (cw_u (qIw120_X12_read_68 n I2 A2 J2 t2) 68 17 (-1)) 68 18 ((qIw120_X12_read_68 n I2 A2 J2 t2) 68 19) := by
  have e : qs1m147_X12_read_68 n I2 A2 J2 t2 = -1 := by
    unfold qs1m147_X12_read_68 qs1m161_X12_read_68
    rw [if_pos h, if_pos g]
  have e17 : qI172_X12_read_68 n I2 A2 J2 t2 = cw_u (qIw120_X12_read_68 n I2 A2 J2 t2) 68 17 (-1) := by
    unfold qI172_X12_read_68
    rw [e]
  have e13 : qI172_X12_read_68 n I2 A2 J2 t2 68 13 = (qIw120_X12_read_68 n I2 A2 J2 t2) 68 13 := by rw [e17, cu_n (by simp)]
  have e15 : qI172_X12_read_68 n I2 A2 J2 t2 68 15 = (qIw120_X12_read_68 n I2 A2 J2 t2) 68 15 := by rw [e17, cu_n (by simp)]
  have e19 : qI172_X12_read_68 n I2 A2 J2 t2 68 19 = (qIw120_X12_read_68 n I2 A2 J2 t2) 68 19 := by rw [e17, cu_n (by simp)]
  unfold px_X12_read_68 pI_X12_read_68 qI204_X12_read_68
  rw [e13, e15, e19, if_pos h, if_pos g, if_pos h, if_pos g, e17]
  exact ⟨rfl, rfl⟩
/-- the reference's reading beside the class's loop -/
theorem rd_ref {c m lv v : Nat} {T : Nat → Int32} {x1 : Int32} {I0 A0 Is As : Nat → Nat → Int32} {J : Nat → Nat → Int64} {t : Bool × Bool} (hc : c = 37 ∨ c = 60) (hn : 2100 ≤ n) (hm : m ≤ 2000) (h2 : I2 68 2 = nI m) (hlv : lv < 2) (hv : v = 1 - lv) (h18 : I2 68 18 = nI lv) (hk : rl_keys J2) (hb : ∀ j, j < m → T j = A2 69 j ∧ -128 ≤ (T j).toInt ∧ (T j).toInt ≤ 127) (hC : C0 c T m 0 0 0 (-1) Is As) :
    pb_X12_read_68 n I2 A2 J2 t2 ∧ (∀ r i, 76 ≤ r → r ≤ 87 → wd r * lv ≤ i → i < wd r * (lv + 1) → (qAw120_X12_read_68 n I2 A2 J2 t2) r i = A2 r i) ∧ (XF c n m v 0 T x1 I0 A0 Is As (qA119_X12_read_68 n I2 A2 J2 t2) J t (qIw120_X12_read_68 n I2 A2 J2 t2) (qAw120_X12_read_68 n I2 A2 J2 t2) ∨ XZ c n m v T x1 I0 A0 Is As (qA119_X12_read_68 n I2 A2 J2 t2) J t (qIw120_X12_read_68 n I2 A2 J2 t2) (qAw120_X12_read_68 n I2 A2 J2 t2)) ∧ (qIw120_X12_read_68 n I2 A2 J2 t2) 68 2 = 0 ∧ (qIw120_X12_read_68 n I2 A2 J2 t2) 68 18 = nI lv ∧ (qIw120_X12_read_68 n I2 A2 J2 t2) 68 19 = nI v := by
  have hv2 : v < 2 := by omega
  have cp := rd_cp (n := n) (A := A2) (J := J2) (t := t2) hm h2 m 0 n A2 (by omega) (by omega) rfl (fun j hj => absurd hj (by omega))
  have cpb : lb_X12_read_68_10 n I2 A2 J2 t2 n A2 0 := cp.1
  have cpe : ∀ j, j < m → qAw10_X12_read_68 n I2 A2 J2 t2 70 j = (A2 69 j).toInt8.toInt32 := cp.2
  have hT2 : ∀ j, j < m → T j = qAw10_X12_read_68 n I2 A2 J2 t2 70 j := fun j hj => by
    obtain ⟨a, b, d⟩ := hb j hj
    rw [cpe j hj, ← a]
    exact (by_id ⟨b, d⟩).symm
  have e4 : qI38_X12_read_68 n I2 A2 J2 t2 68 4 = nI m := by
    unfold qI38_X12_read_68 qI5_X12_read_68
    rw [cu_n (by simp), cu_s]; exact h2
  obtain ⟨c1, C, c2, c3, c4, c5, c6, c7⟩ := cx_all (n := n) (I := qI38_X12_read_68 n I2 A2 J2 t2) (A := qAw10_X12_read_68 n I2 A2 J2 t2) (J := J2) (t := t2) hn hm (T := qAw10_X12_read_68 n I2 A2 J2 t2 70) (fun j hj => by rw [← hT2 j hj]; exact (hb j hj).2) e4 rfl hk
  have hRT0 : RT T m C (pA_X12_cut_68 n (qI38_X12_read_68 n I2 A2 J2 t2) (qAw10_X12_read_68 n I2 A2 J2 t2) J2 t2) := RT_T hT2 ⟨c3, c5, c6, c7⟩
  have e62 : qI62_X12_read_68 n I2 A2 J2 t2 68 18 = nI lv := by rw [fr_qI62_X12_read_68 (by decide)]; exact h18
  have e72 : qI72_X12_read_68 n I2 A2 J2 t2 68 19 = nI v := by
    unfold qI72_X12_read_68
    have o1 : (1 : Int32) = nI 1 := rfl
    rw [cu_s, e62, o1, pk_sub (by omega), hv]
  have e104 : qI104_X12_read_68 n I2 A2 J2 t2 68 19 = nI v := by
    unfold qI104_X12_read_68
    rw [cu_n (by simp)]; exact e72
  have eA119 : (qA119_X12_read_68 n I2 A2 J2 t2) = cw_u (cw_u (cw_u (pA_X12_cut_68 n (qI38_X12_read_68 n I2 A2 J2 t2) (qAw10_X12_read_68 n I2 A2 J2 t2) J2 t2) 76 v 0) 81 v 0) 80 (21 * v) 0 := by
    unfold qA119_X12_read_68 qA94_X12_read_68 qA84_X12_read_68
    have o21 : (21 : Int32) = nI 21 := rfl
    rw [e104, e72, nI_clamp (by omega), o21, pk_mul, nI_clamp (by omega)]
  have hRT : RT T m C (qA119_X12_read_68 n I2 A2 J2 t2) := by
    rw [eA119]
    refine RT_c hRT0 ?_ ?_ ?_
    · rw [cw_u_c _ _ (by decide), cw_u_c _ _ (by decide), cw_u_c _ _ (by decide)]
    · rw [cw_u_c _ _ (by decide), cw_u_c _ _ (by decide), cw_u_c _ _ (by decide)]
    · rw [cw_u_c _ _ (by decide), cw_u_c _ _ (by decide), cw_u_c _ _ (by decide)]
  have hRQ : RQ v 0 0 0 (qI104_X12_read_68 n I2 A2 J2 t2) := by
    refine ⟨?_, ?_, ?_, ?_, e104⟩
    · unfold qI104_X12_read_68 qI72_X12_read_68 qI62_X12_read_68 qI57_X12_read_68
      rw [cu_n (by simp), cu_n (by simp), cu_n (by simp), cu_s]
    · unfold qI104_X12_read_68 qI72_X12_read_68 qI62_X12_read_68 qI57_X12_read_68 qI52_X12_read_68 qI47_X12_read_68
      rw [cu_n (by simp), cu_n (by simp), cu_n (by simp), cu_n (by simp), cu_n (by simp), cu_s]; rfl
    · unfold qI104_X12_read_68 qI72_X12_read_68 qI62_X12_read_68 qI57_X12_read_68 qI52_X12_read_68
      rw [cu_n (by simp), cu_n (by simp), cu_n (by simp), cu_n (by simp), cu_s]; rfl
    · unfold qI104_X12_read_68
      have o5 : (500 : Int32) = nI 500 := rfl
      rw [cu_s, e72, o5, pk_mul]; rfl
  have h15 : qI104_X12_read_68 n I2 A2 J2 t2 68 15 = 0 := by
    unfold qI104_X12_read_68 qI72_X12_read_68 qI62_X12_read_68
    rw [cu_n (by simp), cu_n (by simp), cu_s]
  have hP : PR c v 0 0 (fun _ => 0) (fun _ => 0) As (qA119_X12_read_68 n I2 A2 J2 t2) := by
    refine ⟨rfl, rfl, fun _ _ _ _ => Nat.le_refl _, Nat.le_refl _, fun _ _ _ _ => Nat.le_refl _, fun r hr => ?_, fun r hr => absurd hr (by omega), fun k hk => absurd hk (by omega)⟩
    have e0 : r = 0 := by omega
    subst e0
    rw [eA119, Nat.add_zero, cu_s]; rfl
  obtain ⟨l1, l2⟩ := rd_lp (Ix := I2) (Ax := A2) (Jx := J2) (tx := t2) (I0 := I0) (A0 := A0) (Is := Is) (As := As) (J := J) (t := t) (x1 := x1) hc hn hm hv2 hRT 401 n 0 0 0 (fun _ => 0) (fun _ => 0) (-1) Is As (qI104_X12_read_68 n I2 A2 J2 t2) (qA119_X12_read_68 n I2 A2 J2 t2) (by omega) (by omega) (by omega) CR_refl hC hRQ hP rfl (by rw [eA119, cu_n (by omega), cu_n (by omega), cu_s]; rfl) (by rw [eA119, cu_n (by omega), cu_s]; rfl) (by omega) (by decide) FS_refl (Or.inl ⟨h15, rfl⟩)
  have hFS : FS v (qA119_X12_read_68 n I2 A2 J2 t2) (qAw120_X12_read_68 n I2 A2 J2 t2) := by
    rcases l2 with ⟨_, _, _, _, _, _, _, y⟩ | ⟨_, _, _, _, _, _, _, _, _, _, _, _, _, _, _, _, _, _, _, y⟩ <;> exact y
  refine ⟨⟨cpb, c1, by rw [e72]; exact vp_in_nI hv2 (by decide), by rw [e72]; exact vp_in_nI hv2 (by decide), ?_, l1⟩, fun r i q1 q2 q3 q4 => ?_, l2, ?_, ?_, ?_⟩
  · have o21 : (21 : Int32) = nI 21 := rfl
    rw [e104, o21, pk_mul]
    exact vp_in_nI (by omega) (by decide)
  · have w1 : wd r ≥ 1 := by
      unfold wd
      split
      · omega
      · split
        · omega
        · split
          · omega
          · split <;> omega
    have hout : i < wd r * v ∨ wd r * (v + 1) ≤ i := by
      have : lv = 0 ∨ lv = 1 := by omega
      rcases this with y | y
      · subst y; subst hv
        left
        simpa using q4
      · subst y; subst hv
        right
        simpa using q3
    rw [hFS.2 r i q1 q2 hout, eA119]
    have e76 : ¬ (r = 76 ∧ i = v) := fun y => by
      obtain ⟨y1, y2⟩ := y
      subst y1
      have w : wd 76 = 1 := rfl
      rw [w] at q3 q4
      omega
    have e81 : ¬ (r = 81 ∧ i = v) := fun y => by
      obtain ⟨y1, y2⟩ := y
      subst y1
      have w : wd 81 = 1 := rfl
      rw [w] at q3 q4
      omega
    have e80 : ¬ (r = 80 ∧ i = 21 * v) := fun y => by
      obtain ⟨y1, y2⟩ := y
      subst y1
      have w : wd 80 = 21 := rfl
      rw [w] at q3 q4
      omega
    rw [cu_n e80, cu_n e81, cu_n e76, fr_pA_X12_cut_68 (by simp; omega), fr_qAw10_X12_read_68 (by simp; omega)]
  · show (lp_X12_read_68_120 n I2 A2 J2 t2 n _ _).1 68 2 = 0
    rw [fr_lp_X12_read_68_120_c0 (by decide)]
    unfold qI104_X12_read_68 qI72_X12_read_68 qI62_X12_read_68 qI57_X12_read_68 qI52_X12_read_68 qI47_X12_read_68
    rw [cu_n (by simp), cu_n (by simp), cu_n (by simp), cu_n (by simp), cu_n (by simp), cu_n (by simp), fr_pI_X12_cut_68 (by decide)]
    unfold qI38_X12_read_68
    exact cu_s
  · show (lp_X12_read_68_120 n I2 A2 J2 t2 n _ _).1 68 18 = nI lv
    rw [fr_lp_X12_read_68_120_c0 (by decide), fr_qI104_X12_read_68 (by decide)]
    exact h18
  · show (lp_X12_read_68_120 n I2 A2 J2 t2 n _ _).1 68 19 = nI v
    rw [fr_lp_X12_read_68_120_c0 (by decide)]
    exact e104
/-- the other side's treaty stands -/
theorem rd_tr {c lv mm : Nat} {x0 q0 : Nat → Nat} {A A' A3 : Nat → Nat → Int32} (hlv : lv < 2) (hm : mm ≤ 20) (h : ty_at c lv mm x0 q0 A A2) (hA : ∀ r, c + 1 ≤ r → r ≤ c + 6 → A' r = A r) (h3 : ∀ r i, 76 ≤ r → r ≤ 87 → wd r * lv ≤ i → i < wd r * (lv + 1) → A3 r i = A2 r i) : ty_at c lv mm x0 q0 A' A3 := by
  have hq := h.2.2.2.2.1
  have hx := h.2.2.2.2.2.1
  refine PR_at (PR_c (at_PR h) ⟨fun i _ => ?_, fun i _ => ?_⟩ ⟨fun i hi => ?_, fun i hi => ⟨?_, ?_, ?_⟩, fun i hi => ⟨?_, ?_, ?_, ?_⟩, fun i hi => ⟨?_, ?_⟩⟩) rfl hq hx
  · rw [hA (c + 1) (by omega) (by omega), hA (c + 2) (by omega) (by omega), hA (c + 3) (by omega) (by omega), hA (c + 4) (by omega) (by omega)]
    exact ⟨rfl, rfl, rfl, rfl⟩
  · rw [hA (c + 5) (by omega) (by omega), hA (c + 6) (by omega) (by omega)]
    exact ⟨rfl, rfl⟩
  · have w : wd 80 = 21 := rfl
    exact h3 80 _ (by decide) (by decide) (by rw [w]; omega) (by rw [w]; omega)
  · have w : wd 77 = 20 := rfl
    exact h3 77 _ (by decide) (by decide) (by rw [w]; omega) (by rw [w]; omega)
  · have w : wd 78 = 20 := rfl
    exact h3 78 _ (by decide) (by decide) (by rw [w]; omega) (by rw [w]; omega)
  · have w : wd 79 = 20 := rfl
    exact h3 79 _ (by decide) (by decide) (by rw [w]; omega) (by rw [w]; omega)
  · have w : wd 82 = 200 := rfl
    exact h3 82 _ (by decide) (by decide) (by rw [w]; omega) (by rw [w]; omega)
  · have w : wd 83 = 200 := rfl
    exact h3 83 _ (by decide) (by decide) (by rw [w]; omega) (by rw [w]; omega)
  · have w : wd 84 = 200 := rfl
    exact h3 84 _ (by decide) (by decide) (by rw [w]; omega) (by rw [w]; omega)
  · have w : wd 85 = 200 := rfl
    exact h3 85 _ (by decide) (by decide) (by rw [w]; omega) (by rw [w]; omega)
  · have w : wd 86 = 500 := rfl
    exact h3 86 _ (by decide) (by decide) (by rw [w]; omega) (by rw [w]; omega)
  · have w : wd 87 = 500 := rfl
    exact h3 87 _ (by decide) (by decide) (by rw [w]; omega) (by rw [w]; omega)
end Ra
section Rc37
variable {n : Nat} {I A I2 A2 : Nat → Nat → Int32} {J J2 : Nat → Nat → Int64} {t t2 : Bool × Bool}
theorem rd_cls37 (hn : 2100 ≤ n) {fa : Int32} {I' A' : Nat → Nat → Int32} (H : CE 37 n I A J (false, t.2) (I 0 13) 0 (qI28_X4_parse_33_32_tFx n I A J (false, t.2) (I 0 13)) A fa I' A') : pb_X11_read_0_tFx n I A J t ∧ px_X11_read_0_tFx n I A J t = (if fa = 0 then (if I' 33 10 = -1 then fa else 5) else fa) ∧ pI_X11_read_0_tFx n I A J t = cw_u (cw_u I' 33 11 (if fa = 0 then I' 33 10 else I' 34 4)) 0 13 0 ∧ pA_X11_read_0_tFx n I A J t = A' := by
  obtain ⟨h1, y, z, h2⟩ := H.1 rfl n (by omega)
  have hlp : lp_X4_parse_33_32_tFx_39 n I A J (false, t.2) (I 0 13) n (qI28_X4_parse_33_32_tFx n I A J (false, t.2) (I 0 13)) A 0 1 0 = (I', A', fa, y, z) := h2
  have eI : qIw39_X4_parse_33_32_tFx n I A J (false, t.2) (I 0 13) = I' := by unfold qIw39_X4_parse_33_32_tFx; rw [hlp]
  have eA : qAw39_X4_parse_33_32_tFx n I A J (false, t.2) (I 0 13) = A' := by unfold qAw39_X4_parse_33_32_tFx; rw [hlp]
  have e3 : q3w39_X4_parse_33_32_tFx n I A J (false, t.2) (I 0 13) = fa := by unfold q3w39_X4_parse_33_32_tFx; rw [hlp]
  have e135 : qI135_X4_parse_33_32_tFx n I A J (false, t.2) (I 0 13) = cw_u I' 33 11 (if fa = 0 then I' 33 10 else I' 34 4) := by
    unfold qI135_X4_parse_33_32_tFx qs1m118_X4_parse_33_32_tFx
    rw [eI, e3]
  refine ⟨h1, ?_, ?_, eA⟩
  · unfold px_X11_read_0_tFx q15_X11_read_0_tFx px_X4_parse_33_32_tFx qs0m139_X4_parse_33_32_tFx qs0m147_X4_parse_33_32_tFx
    rw [e3, e135, cu_n (by simp)]
  · unfold pI_X11_read_0_tFx qI18_X11_read_0_tFx pI_X4_parse_33_32_tFx
    rw [e135]
theorem rd_c037 {m : Nat} (hm : m ≤ 2000) (h13 : I 0 13 = nI m) : C0 37 (A 32) m 0 0 0 (-1) (qI28_X4_parse_33_32_tFx n I A J (false, t.2) (I 0 13)) A := by
  unfold qI28_X4_parse_33_32_tFx qI23_X4_parse_33_32_tFx qI18_X4_parse_33_32_tFx pI_X7_start_34_32 qI17_X7_start_34_32 qI12_X7_start_34_32 pI_X10_renew_37 qI7_X10_renew_37 qI2_X10_renew_37 px_J9_min_7cf53 qs0m2_J9_min_7cf53
  have c : ¬ nI 2000 < nI m := nI_nlt hm (by decide)
  rw [h13, if_neg c]
  refine ⟨rfl, ?_, ?_, ?_, ?_, ?_, ?_, cu_s, by decide⟩
  · rw [cu_n (by simp), cu_n (by simp), cu_n (by simp), cu_n (by simp), cu_s]
  · rw [cu_n (by simp), cu_n (by simp), cu_n (by simp), cu_s]; rfl
  · rw [cu_n (by simp), cu_n (by simp), cu_s]; rfl
  · rw [cu_n (by simp), cu_s]; rfl
  · rw [cu_n (by simp), cu_n (by simp), cu_n (by simp), cu_n (by simp), cu_n (by simp), cu_s]; rfl
  · rw [cu_n (by simp), cu_n (by simp), cu_n (by simp), cu_n (by simp), cu_n (by simp), cu_n (by simp), cu_s]; rfl
theorem rd_read37 (hn : 2100 ≤ n) (h_tape : rl_tape I A I2 A2) (h_keys : rl_keys J2) (h_tr : rl_tr 60 I A I2 A2) : pb_X11_read_0_tFx n I A J t ∧ pb_X12_read_68 n I2 A2 J2 t2 ∧ px_X12_read_68 n I2 A2 J2 t2 = px_X11_read_0_tFx n I A J t ∧ rl_tape (pI_X11_read_0_tFx n I A J t) (pA_X11_read_0_tFx n I A J t) (pI_X12_read_68 n I2 A2 J2 t2) (pA_X12_read_68 n I2 A2 J2 t2) ∧ rl_place (pI_X11_read_0_tFx n I A J t) (pI_X12_read_68 n I2 A2 J2 t2) ∧ rl_tr (cw_tr (pt_X11_read_0_tFx n I A J t)) (pI_X11_read_0_tFx n I A J t) (pA_X11_read_0_tFx n I A J t) (pI_X12_read_68 n I2 A2 J2 t2) (pA_X12_read_68 n I2 A2 J2 t2) := by
  obtain ⟨m, hm, t13, t68, tb⟩ := h_tape
  obtain ⟨lv, mm, hlv, hmm, h18, h8, h76, x0, q0, hat⟩ := h_tr
  obtain ⟨r1, r2, r3, r4, r5, r6⟩ := rd_ref (n := n) (t2 := t2) (T := A 32) (v := 1 - lv) (I0 := I) (A0 := A) (J := J) (t := (false, t.2)) (x1 := I 0 13) (c := 37) (Or.inl rfl) hn hm t68 hlv rfl h18 h_keys tb (rd_c037 (n := n) (J := J) (t := t) hm t13)
  -- the treaty at hand stands, where the text was at fault
  have keep : ∀ {y : Int32}, pI_X12_read_68 n I2 A2 J2 t2 = cw_u (qIw120_X12_read_68 n I2 A2 J2 t2) 68 17 y → ¬ px_X11_read_0_tFx n I A J t = 0 → rl_tr (cw_tr (pt_X11_read_0_tFx n I A J t)) (pI_X11_read_0_tFx n I A J t) (pA_X11_read_0_tFx n I A J t) (pI_X12_read_68 n I2 A2 J2 t2) (pA_X12_read_68 n I2 A2 J2 t2) := by
    intro y e1 e2
    have ept : cw_tr (pt_X11_read_0_tFx n I A J t) = 60 := by
      have e3 : pt_X11_read_0_tFx n I A J t = (false, true) := if_neg e2
      rw [e3]; rfl
    rw [ept]
    refine ⟨lv, mm, hlv, hmm, ?_, ?_, ?_, x0, q0, rd_tr hlv hmm hat (fun r q1 q2 => ?_) r2⟩
    · rw [e1, cu_n (by simp)]; exact r5
    · rw [fr_pI_X11_read_0_tFx (by decide)]; exact h8
    · have w : wd 76 = 1 := rfl
      have := r2 76 lv (by decide) (by decide) (by rw [w]; omega) (by rw [w]; omega)
      exact this.trans h76
    · exact fr_pA_X11_read_0_tFx (by simp; omega)
  rcases r3 with ⟨fa, q, I', A', m1, m2, m3, m4⟩ | ⟨k, z, R, x, qq, wr, A', I', z1, z2, z3, z4, z5, z6, z7, z8, z9, z10, z11, z12⟩
  · obtain ⟨c1, c2, c3, c4⟩ := rd_cls37 hn m2
    have zf := Mq_p m1
    have f0 : ¬ nI fa = 0 := by
      rcases m1.2.1 with y | y <;> rw [y] <;> decide
    rw [if_neg f0] at c2 c3
    obtain ⟨o1, o2⟩ := ro_a (n := n) (I2 := I2) (A2 := A2) (J2 := J2) (t2 := t2) zf.1
    have ex : px_X12_read_68 n I2 A2 J2 t2 = px_X11_read_0_tFx n I A J t := by rw [o1, c2]; exact m1.1
    refine ⟨c1, r1, ex, ⟨0, by decide, ?_, ?_, fun j hj => absurd hj (by omega)⟩, ?_, keep o2 (by rw [c2]; exact f0)⟩
    · rw [c3, cu_s]; rfl
    · rw [o2, cu_n (by simp), r4]; rfl
    · unfold rl_place
      rw [c3, o2, cu_n (by simp), cu_s, cu_s, m3]
      exact m1.2.2.1.symm
  · obtain ⟨c1, c2, c3, c4⟩ := rd_cls37 hn z1
    have f0 : nI 0 = 0 := rfl
    rw [if_pos f0, z2] at c2 c3
    have z13 : (qIw120_X12_read_68 n I2 A2 J2 t2) 68 13 ≤ 0 := by rw [z10]; decide
    rcases z11 with ⟨w1, w2⟩ | ⟨w1, q', w2, w3, w4⟩
    · have z15 : (qIw120_X12_read_68 n I2 A2 J2 t2) 68 15 ≤ 0 := by rw [w1]; decide
      obtain ⟨o1, o2⟩ := ro_c (n := n) (I2 := I2) (A2 := A2) (J2 := J2) (t2 := t2) z13 z15
      rw [if_pos w2] at c2
      have ex : px_X12_read_68 n I2 A2 J2 t2 = px_X11_read_0_tFx n I A J t := by rw [o1, c2]; rfl
      have ept : cw_tr (pt_X11_read_0_tFx n I A J t) = 37 := by
        have e3 : pt_X11_read_0_tFx n I A J t = (!false, true) := if_pos c2
        rw [e3]; rfl
      refine ⟨c1, r1, ex, ⟨0, by decide, ?_, ?_, fun j hj => absurd hj (by omega)⟩, ?_, ?_⟩
      · rw [c3, cu_s]; rfl
      · rw [o2, cu_n (by simp), cu_n (by simp), r4]; rfl
      · unfold rl_place
        rw [c3, o2, cu_n (by simp), cu_s, cu_n (by simp), cu_s]
        exact w2
      · rw [ept]
        refine ⟨1 - lv, z, by omega, z4, ?_, ?_, z9, x, qq, ?_⟩
        · rw [o2, cu_s]; exact r6
        · rw [c3, cu_n (by simp), cu_n (by simp)]; exact z3
        · rw [c4]
          exact PR_at z5 z6 z7 z8
    · have z15 : ¬ (qIw120_X12_read_68 n I2 A2 J2 t2) 68 15 ≤ 0 := by rw [w1]; decide
      obtain ⟨o1, o2⟩ := ro_b (n := n) (I2 := I2) (A2 := A2) (J2 := J2) (t2 := t2) z13 z15
      have nw : ¬ wr = -1 := fun y => by
        have wl := kP_le (T := A 32) (L := m) (k := q')
        have e := nI_pos (n := kP (A 32) m q') (by omega)
        rw [← w4, y] at e
        exact e (by decide)
      rw [if_neg nw] at c2
      have ex : px_X12_read_68 n I2 A2 J2 t2 = px_X11_read_0_tFx n I A J t := by rw [o1, c2]; exact w1
      refine ⟨c1, r1, ex, ⟨0, by decide, ?_, ?_, fun j hj => absurd hj (by omega)⟩, ?_, keep o2 (by rw [c2]; decide)⟩
      · rw [c3, cu_s]; rfl
      · rw [o2, cu_n (by simp), r4]; rfl
      · unfold rl_place
        rw [c3, o2, cu_n (by simp), cu_s, cu_s, w3]
        exact w4
end Rc37
section Rc60
variable {n : Nat} {I A I2 A2 : Nat → Nat → Int32} {J J2 : Nat → Nat → Int64} {t t2 : Bool × Bool}
theorem rd_cls60 (hn : 2100 ≤ n) {fa : Int32} {I' A' : Nat → Nat → Int32} (H : CE 60 n I A J (true, t.2) (I 0 13) 0 (qI28_X4_parse_33_32_tTx n I A J (true, t.2) (I 0 13)) A fa I' A') : pb_X11_read_0_tTx n I A J t ∧ px_X11_read_0_tTx n I A J t = (if fa = 0 then (if I' 33 10 = -1 then fa else 5) else fa) ∧ pI_X11_read_0_tTx n I A J t = cw_u (cw_u I' 33 11 (if fa = 0 then I' 33 10 else I' 34 4)) 0 13 0 ∧ pA_X11_read_0_tTx n I A J t = A' := by
  obtain ⟨h1, y, z, h2⟩ := H.2 rfl n (by omega)
  have hlp : lp_X4_parse_33_32_tTx_39 n I A J (true, t.2) (I 0 13) n (qI28_X4_parse_33_32_tTx n I A J (true, t.2) (I 0 13)) A 0 1 0 = (I', A', fa, y, z) := h2
  have eI : qIw39_X4_parse_33_32_tTx n I A J (true, t.2) (I 0 13) = I' := by unfold qIw39_X4_parse_33_32_tTx; rw [hlp]
  have eA : qAw39_X4_parse_33_32_tTx n I A J (true, t.2) (I 0 13) = A' := by unfold qAw39_X4_parse_33_32_tTx; rw [hlp]
  have e3 : q3w39_X4_parse_33_32_tTx n I A J (true, t.2) (I 0 13) = fa := by unfold q3w39_X4_parse_33_32_tTx; rw [hlp]
  have e135 : qI135_X4_parse_33_32_tTx n I A J (true, t.2) (I 0 13) = cw_u I' 33 11 (if fa = 0 then I' 33 10 else I' 34 4) := by
    unfold qI135_X4_parse_33_32_tTx qs1m118_X4_parse_33_32_tTx
    rw [eI, e3]
  refine ⟨h1, ?_, ?_, eA⟩
  · unfold px_X11_read_0_tTx q15_X11_read_0_tTx px_X4_parse_33_32_tTx qs0m139_X4_parse_33_32_tTx qs0m147_X4_parse_33_32_tTx
    rw [e3, e135, cu_n (by simp)]
  · unfold pI_X11_read_0_tTx qI18_X11_read_0_tTx pI_X4_parse_33_32_tTx
    rw [e135]
theorem rd_c060 {m : Nat} (hm : m ≤ 2000) (h13 : I 0 13 = nI m) : C0 60 (A 32) m 0 0 0 (-1) (qI28_X4_parse_33_32_tTx n I A J (true, t.2) (I 0 13)) A := by
  unfold qI28_X4_parse_33_32_tTx qI23_X4_parse_33_32_tTx qI18_X4_parse_33_32_tTx pI_X7_start_34_32 qI17_X7_start_34_32 qI12_X7_start_34_32 pI_X10_renew_60 qI7_X10_renew_60 qI2_X10_renew_60 px_J9_min_7cf53 qs0m2_J9_min_7cf53
  have c : ¬ nI 2000 < nI m := nI_nlt hm (by decide)
  rw [h13, if_neg c]
  refine ⟨rfl, ?_, ?_, ?_, ?_, ?_, ?_, cu_s, by decide⟩
  · rw [cu_n (by simp), cu_n (by simp), cu_n (by simp), cu_n (by simp), cu_s]
  · rw [cu_n (by simp), cu_n (by simp), cu_n (by simp), cu_s]; rfl
  · rw [cu_n (by simp), cu_n (by simp), cu_s]; rfl
  · rw [cu_n (by simp), cu_s]; rfl
  · rw [cu_n (by simp), cu_n (by simp), cu_n (by simp), cu_n (by simp), cu_n (by simp), cu_s]; rfl
  · rw [cu_n (by simp), cu_n (by simp), cu_n (by simp), cu_n (by simp), cu_n (by simp), cu_n (by simp), cu_s]; rfl
theorem rd_read60 (hn : 2100 ≤ n) (h_tape : rl_tape I A I2 A2) (h_keys : rl_keys J2) (h_tr : rl_tr 37 I A I2 A2) : pb_X11_read_0_tTx n I A J t ∧ pb_X12_read_68 n I2 A2 J2 t2 ∧ px_X12_read_68 n I2 A2 J2 t2 = px_X11_read_0_tTx n I A J t ∧ rl_tape (pI_X11_read_0_tTx n I A J t) (pA_X11_read_0_tTx n I A J t) (pI_X12_read_68 n I2 A2 J2 t2) (pA_X12_read_68 n I2 A2 J2 t2) ∧ rl_place (pI_X11_read_0_tTx n I A J t) (pI_X12_read_68 n I2 A2 J2 t2) ∧ rl_tr (cw_tr (pt_X11_read_0_tTx n I A J t)) (pI_X11_read_0_tTx n I A J t) (pA_X11_read_0_tTx n I A J t) (pI_X12_read_68 n I2 A2 J2 t2) (pA_X12_read_68 n I2 A2 J2 t2) := by
  obtain ⟨m, hm, t13, t68, tb⟩ := h_tape
  obtain ⟨lv, mm, hlv, hmm, h18, h8, h76, x0, q0, hat⟩ := h_tr
  obtain ⟨r1, r2, r3, r4, r5, r6⟩ := rd_ref (n := n) (t2 := t2) (T := A 32) (v := 1 - lv) (I0 := I) (A0 := A) (J := J) (t := (true, t.2)) (x1 := I 0 13) (c := 60) (Or.inr rfl) hn hm t68 hlv rfl h18 h_keys tb (rd_c060 (n := n) (J := J) (t := t) hm t13)
  -- the treaty at hand stands, where the text was at fault
  have keep : ∀ {y : Int32}, pI_X12_read_68 n I2 A2 J2 t2 = cw_u (qIw120_X12_read_68 n I2 A2 J2 t2) 68 17 y → ¬ px_X11_read_0_tTx n I A J t = 0 → rl_tr (cw_tr (pt_X11_read_0_tTx n I A J t)) (pI_X11_read_0_tTx n I A J t) (pA_X11_read_0_tTx n I A J t) (pI_X12_read_68 n I2 A2 J2 t2) (pA_X12_read_68 n I2 A2 J2 t2) := by
    intro y e1 e2
    have ept : cw_tr (pt_X11_read_0_tTx n I A J t) = 37 := by
      have e3 : pt_X11_read_0_tTx n I A J t = (true, true) := if_neg e2
      rw [e3]; rfl
    rw [ept]
    refine ⟨lv, mm, hlv, hmm, ?_, ?_, ?_, x0, q0, rd_tr hlv hmm hat (fun r q1 q2 => ?_) r2⟩
    · rw [e1, cu_n (by simp)]; exact r5
    · rw [fr_pI_X11_read_0_tTx (by decide)]; exact h8
    · have w : wd 76 = 1 := rfl
      have := r2 76 lv (by decide) (by decide) (by rw [w]; omega) (by rw [w]; omega)
      exact this.trans h76
    · exact fr_pA_X11_read_0_tTx (by simp; omega)
  rcases r3 with ⟨fa, q, I', A', m1, m2, m3, m4⟩ | ⟨k, z, R, x, qq, wr, A', I', z1, z2, z3, z4, z5, z6, z7, z8, z9, z10, z11, z12⟩
  · obtain ⟨c1, c2, c3, c4⟩ := rd_cls60 hn m2
    have zf := Mq_p m1
    have f0 : ¬ nI fa = 0 := by
      rcases m1.2.1 with y | y <;> rw [y] <;> decide
    rw [if_neg f0] at c2 c3
    obtain ⟨o1, o2⟩ := ro_a (n := n) (I2 := I2) (A2 := A2) (J2 := J2) (t2 := t2) zf.1
    have ex : px_X12_read_68 n I2 A2 J2 t2 = px_X11_read_0_tTx n I A J t := by rw [o1, c2]; exact m1.1
    refine ⟨c1, r1, ex, ⟨0, by decide, ?_, ?_, fun j hj => absurd hj (by omega)⟩, ?_, keep o2 (by rw [c2]; exact f0)⟩
    · rw [c3, cu_s]; rfl
    · rw [o2, cu_n (by simp), r4]; rfl
    · unfold rl_place
      rw [c3, o2, cu_n (by simp), cu_s, cu_s, m3]
      exact m1.2.2.1.symm
  · obtain ⟨c1, c2, c3, c4⟩ := rd_cls60 hn z1
    have f0 : nI 0 = 0 := rfl
    rw [if_pos f0, z2] at c2 c3
    have z13 : (qIw120_X12_read_68 n I2 A2 J2 t2) 68 13 ≤ 0 := by rw [z10]; decide
    rcases z11 with ⟨w1, w2⟩ | ⟨w1, q', w2, w3, w4⟩
    · have z15 : (qIw120_X12_read_68 n I2 A2 J2 t2) 68 15 ≤ 0 := by rw [w1]; decide
      obtain ⟨o1, o2⟩ := ro_c (n := n) (I2 := I2) (A2 := A2) (J2 := J2) (t2 := t2) z13 z15
      rw [if_pos w2] at c2
      have ex : px_X12_read_68 n I2 A2 J2 t2 = px_X11_read_0_tTx n I A J t := by rw [o1, c2]; rfl
      have ept : cw_tr (pt_X11_read_0_tTx n I A J t) = 60 := by
        have e3 : pt_X11_read_0_tTx n I A J t = (!true, true) := if_pos c2
        rw [e3]; rfl
      refine ⟨c1, r1, ex, ⟨0, by decide, ?_, ?_, fun j hj => absurd hj (by omega)⟩, ?_, ?_⟩
      · rw [c3, cu_s]; rfl
      · rw [o2, cu_n (by simp), cu_n (by simp), r4]; rfl
      · unfold rl_place
        rw [c3, o2, cu_n (by simp), cu_s, cu_n (by simp), cu_s]
        exact w2
      · rw [ept]
        refine ⟨1 - lv, z, by omega, z4, ?_, ?_, z9, x, qq, ?_⟩
        · rw [o2, cu_s]; exact r6
        · rw [c3, cu_n (by simp), cu_n (by simp)]; exact z3
        · rw [c4]
          exact PR_at z5 z6 z7 z8
    · have z15 : ¬ (qIw120_X12_read_68 n I2 A2 J2 t2) 68 15 ≤ 0 := by rw [w1]; decide
      obtain ⟨o1, o2⟩ := ro_b (n := n) (I2 := I2) (A2 := A2) (J2 := J2) (t2 := t2) z13 z15
      have nw : ¬ wr = -1 := fun y => by
        have wl := kP_le (T := A 32) (L := m) (k := q')
        have e := nI_pos (n := kP (A 32) m q') (by omega)
        rw [← w4, y] at e
        exact e (by decide)
      rw [if_neg nw] at c2
      have ex : px_X12_read_68 n I2 A2 J2 t2 = px_X11_read_0_tTx n I A J t := by rw [o1, c2]; exact w1
      refine ⟨c1, r1, ex, ⟨0, by decide, ?_, ?_, fun j hj => absurd hj (by omega)⟩, ?_, keep o2 (by rw [c2]; decide)⟩
      · rw [c3, cu_s]; rfl
      · rw [o2, cu_n (by simp), r4]; rfl
      · unfold rl_place
        rw [c3, o2, cu_n (by simp), cu_s, cu_s, w3]
        exact w4
end Rc60
