/-! ways and suns: both sides are functions of few small numbers -/
def ge_min (x y : Int32) : Int32 := if y < x then y else x
def ge_abs (x : Int32) : Int32 := if 0 ≤ x then x else (-x)
def ge_short (o b1 b2 : Int32) : Int32 := ge_min (((ge_min o ((24 : Int32) - o) + ge_abs (b2 - b1)) * 4) + 0) (ge_min ((((b1 + b2) + ((13 : Int32) - ge_min o ((24 : Int32) - o))) * 4) + 1) (((((12 : Int32) - (b1 + b2)) + ((13 : Int32) - ge_min o ((24 : Int32) - o))) * 4) + 2))
def ge_cmp (x y : Int32) : Int32 := if y ≤ x then (if x = y then 0 else 1) else (-1)
def ge_ix (o b1 b2 : Int32) : Int32 := ((((ge_cmp b2 b1) + 1) * 3) + (if o = 0 then 0 else (if 12 < o then (-1) else 1))) + 1
def ge_aim (o b1 b2 : Int32) : Int32 := if cw_rem (ge_short o b1 b2) 4 = 1 then 0 else (if cw_rem (ge_short o b1 b2) 4 = 2 then 4 else cw_aims (ge_ix o b1 b2).toNatClampNeg)
def ge_far (o b1 b2 : Int32) : Int32 := ge_min ((ge_short o b1 b2 / 4) / 5) 4
def gr_dx (o : Int32) : Int32 := if o ≤ 12 then o else ((24 : Int32) - o)
def gr_dy (b1 b2 : Int32) : Int32 := if b2 ≤ b1 then b1 - b2 else b2 - b1
def gr_no (o b1 b2 : Int32) : Int32 := ((((b1 + b2) + 1) + 12) - gr_dx o)
def gr_so (o b1 b2 : Int32) : Int32 := ((((((12 : Int32) - b1) - b2) + 1) + 12) - gr_dx o)
def gr_l1 (o b1 b2 : Int32) : Int32 := if gr_dx o + gr_dy b1 b2 ≤ gr_no o b1 b2 then gr_dx o + gr_dy b1 b2 else gr_no o b1 b2
def gr_s1 (o b1 b2 : Int32) : Int32 := if gr_dx o + gr_dy b1 b2 ≤ gr_no o b1 b2 then 0 else 1
def gr_len (o b1 b2 : Int32) : Int32 := if gr_l1 o b1 b2 ≤ gr_so o b1 b2 then gr_l1 o b1 b2 else gr_so o b1 b2
def gr_sort (o b1 b2 : Int32) : Int32 := if gr_l1 o b1 b2 ≤ gr_so o b1 b2 then gr_s1 o b1 b2 else 2
def gr_side (o : Int32) : Int32 := if o = 0 then 0 else (if 12 < o then 2 else 1)
def gr_up (b1 b2 : Int32) : Int32 := if b1 ≤ b2 then (if b2 ≤ b1 then 0 else 2) else 1
def gr_aim (o b1 b2 : Int32) : Int32 := if gr_sort o b1 b2 ≤ 0 then (if gr_side o = 0 then (if gr_up b1 b2 = 2 then 4 else 0) else (if gr_side o = 1 then (if gr_up b1 b2 = 1 then 1 else (if gr_up b1 b2 = 2 then 3 else 2)) else (if gr_up b1 b2 = 1 then 7 else (if gr_up b1 b2 = 2 then 5 else 6)))) else (if gr_sort o b1 b2 = 2 then 4 else 0)
def gr_far (o b1 b2 : Int32) : Int32 := if 4 ≤ (gr_len o b1 b2 / 5) then 4 else (gr_len o b1 b2 / 5)
set_option maxRecDepth 100000 in
theorem ge_all : ∀ o, o < 24 → ∀ b, b < 7 → ∀ c, c < 7 → ge_short (nI o) (nI b) (nI c) / 4 = gr_len (nI o) (nI b) (nI c) ∧ cw_rem (ge_short (nI o) (nI b) (nI c)) 4 = gr_sort (nI o) (nI b) (nI c) ∧ ge_aim (nI o) (nI b) (nI c) = gr_aim (nI o) (nI b) (nI c) ∧ ge_far (nI o) (nI b) (nI c) = gr_far (nI o) (nI b) (nI c) ∧ 0 ≤ (gr_far (nI o) (nI b) (nI c)).toInt ∧ (gr_far (nI o) (nI b) (nI c)).toInt < 5 ∧ 0 ≤ (ge_ix (nI o) (nI b) (nI c)).toInt ∧ (ge_ix (nI o) (nI b) (nI c)).toInt < 9 := by decide +kernel
def gs_light (x1 x2 x3 x4 : Int32) : Int32 := (if x1 < x2 then (if x1 < (x2 - x4) then 0 else (if (x3 + x4) < x1 then 0 else 1)) else (if x3 < x1 then (if x1 < (x2 - x4) then 0 else (if (x3 + x4) < x1 then 0 else 1)) else 2))
def gs_c (l s b : Int32) : Int32 := (if s = 1 then (if (if 2 < b then (0 : Int32) else 1) = 0 then (if s = 3 then (if (if b < 4 then (0 : Int32) else 1) = 0 then gs_light l 7 16 2 else gs_light l 5 18 1) else (if (if b < 4 then (0 : Int32) else 1) = 0 then gs_light l 7 16 2 else gs_light l 8 15 1)) else gs_light l 5 18 1) else (if s = 3 then (if (if b < 4 then (0 : Int32) else 1) = 0 then (if (if 2 < b then (0 : Int32) else 1) = 0 then gs_light l 7 16 2 else gs_light l 8 15 1) else gs_light l 5 18 1) else gs_light l 7 16 2))
def gs_n (b : Int32) : Int32 := if 3 ≤ b then 0 else 1
def gs_s (b : Int32) : Int32 := if b ≤ 3 then 0 else 1
def gs_t (s : Int32) : Int32 := if s = 3 then 1 else 0
def gs_long (s b : Int32) : Int32 := if gs_n b = 0 then (if gs_s b = 0 then 0 else gs_t s) else (if s = 1 then 1 else (if gs_s b = 0 then 0 else gs_t s))
def gs_shor (s b : Int32) : Int32 := if gs_s b = 0 then (if gs_n b = 0 then 0 else gs_t s) else (if s = 1 then 1 else (if gs_n b = 0 then 0 else gs_t s))
def gs_r (l s b : Int32) : Int32 := (if gs_long s b = 0 then (if gs_shor s b = 0 then (if l < 7 then (if l = 5 then 1 else (if l = 6 then 1 else (if l = 17 then 1 else (if l = 18 then 1 else 0)))) else (if 16 < l then (if l = 5 then 1 else (if l = 6 then 1 else (if l = 17 then 1 else (if l = 18 then 1 else 0)))) else 2)) else (if l < 8 then (if l = 7 then 1 else (if l = 16 then 1 else 0)) else (if 15 < l then (if l = 7 then 1 else (if l = 16 then 1 else 0)) else 2))) else (if l < 5 then (if l = 4 then 1 else (if l = 19 then 1 else 0)) else (if 18 < l then (if l = 4 then 1 else (if l = 19 then 1 else 0)) else 2)))
set_option maxRecDepth 100000 in
theorem gs_all : ∀ l, l < 24 → ∀ s, s < 4 → ∀ b, b < 7 → gs_c (nI l) (nI s) (nI b) = gs_r (nI l) (nI s) (nI b) ∧ 0 ≤ (gs_r (nI l) (nI s) (nI b)).toInt ∧ (gs_r (nI l) (nI s) (nI b)).toInt < 3 := by decide +kernel
section Geo
variable {n : Nat} {I A : Nat → Nat → Int32} {J : Nat → Nat → Int64} {t : Bool × Bool} {x1 x2 x3 : Int32}
theorem cg_short5 : px_X9_shortest_5_1 n I A J t x1 x2 = ge_short (cw_rem ((A 2 x2.toNatClampNeg - A 6 x1.toNatClampNeg) + 24) 24) (A 7 x1.toNatClampNeg) (A 3 x2.toNatClampNeg) := rfl
theorem cg_short1 : px_X9_shortest_1_1 n I A J t x1 x2 = ge_short (cw_rem ((A 2 x2.toNatClampNeg - A 2 x1.toNatClampNeg) + 24) 24) (A 3 x1.toNatClampNeg) (A 3 x2.toNatClampNeg) := rfl
theorem cg_aim5 : px_X9_aimTo_5_1 n I A J t x1 x2 = ge_aim (cw_rem ((A 2 x2.toNatClampNeg - A 6 x1.toNatClampNeg) + 24) 24) (A 7 x1.toNatClampNeg) (A 3 x2.toNatClampNeg) := rfl
theorem cg_far5 : px_X9_farTo_5_1 n I A J t x1 x2 = ge_far (cw_rem ((A 2 x2.toNatClampNeg - A 6 x1.toNatClampNeg) + 24) 24) (A 7 x1.toNatClampNeg) (A 3 x2.toNatClampNeg) := rfl
theorem cg_far1 : px_X9_farTo_1_1 n I A J t x1 x2 = ge_far (cw_rem ((A 2 x2.toNatClampNeg - A 2 x1.toNatClampNeg) + 24) 24) (A 3 x1.toNatClampNeg) (A 3 x2.toNatClampNeg) := rfl
theorem cg_sun5 : px_X9_sunAt_5 n I A J t x1 x2 x3 = gs_c (cw_rem (x3 + A 6 x1.toNatClampNeg) 24) (cw_rem (x2 / 90) 4) (A 7 x1.toNatClampNeg) := rfl
theorem cg_sun1 : px_X9_sunAt_1 n I A J t x1 x2 x3 = gs_c (cw_rem (x3 + A 2 x1.toNatClampNeg) 24) (cw_rem (x2 / 90) 4) (A 3 x1.toNatClampNeg) := rfl
theorem rg_sun : px_X12_sunAt_68 n I A J t x1 x2 x3 = gs_r (cw_rem (x3 + A 89 x1.toNatClampNeg) 24) (cw_rem (x2 / 90) 4) (A 90 x1.toNatClampNeg) := rfl
theorem rg_goes : pI_X12_goes_68 n I A J t x1 x2 68 59 = gr_len (cw_rem ((A 89 x2.toNatClampNeg - A 89 x1.toNatClampNeg) + 24) 24) (A 90 x1.toNatClampNeg) (A 90 x2.toNatClampNeg) ∧ pI_X12_goes_68 n I A J t x1 x2 68 60 = gr_sort (cw_rem ((A 89 x2.toNatClampNeg - A 89 x1.toNatClampNeg) + 24) 24) (A 90 x1.toNatClampNeg) (A 90 x2.toNatClampNeg) ∧ pI_X12_goes_68 n I A J t x1 x2 68 61 = gr_aim (cw_rem ((A 89 x2.toNatClampNeg - A 89 x1.toNatClampNeg) + 24) 24) (A 90 x1.toNatClampNeg) (A 90 x2.toNatClampNeg) := by
  have a1 : qI142_X12_goes_68 n I A J t x1 x2 68 59 = gr_dx (cw_rem ((A 89 x2.toNatClampNeg - A 89 x1.toNatClampNeg) + 24) 24) + gr_dy (A 90 x1.toNatClampNeg) (A 90 x2.toNatClampNeg) := by
    unfold qI142_X12_goes_68 qI137_X12_goes_68
    rw [cw_u_k _ _ (by decide), cw_u_s]; rfl
  have a2 : qI142_X12_goes_68 n I A J t x1 x2 68 60 = 0 := by
    unfold qI142_X12_goes_68
    rw [cw_u_s]
  have b1 : qIm151_X12_goes_68 n I A J t x1 x2 68 59 = gr_l1 (cw_rem ((A 89 x2.toNatClampNeg - A 89 x1.toNatClampNeg) + 24) 24) (A 90 x1.toNatClampNeg) (A 90 x2.toNatClampNeg) ∧ qIm151_X12_goes_68 n I A J t x1 x2 68 60 = gr_s1 (cw_rem ((A 89 x2.toNatClampNeg - A 89 x1.toNatClampNeg) + 24) 24) (A 90 x1.toNatClampNeg) (A 90 x2.toNatClampNeg) := by
    unfold qIm151_X12_goes_68 gr_l1 gr_s1
    rw [a1]
    have e : q103_X12_goes_68 n I A J t x1 x2 = gr_no (cw_rem ((A 89 x2.toNatClampNeg - A 89 x1.toNatClampNeg) + 24) 24) (A 90 x1.toNatClampNeg) (A 90 x2.toNatClampNeg) := rfl
    rw [e]
    split
    · exact ⟨a1, a2⟩
    · unfold qI162_X12_goes_68 qI157_X12_goes_68
      rw [cw_u_k _ _ (by decide), cw_u_s, cw_u_s]
      exact ⟨rfl, rfl⟩
  have c1 : qIm171_X12_goes_68 n I A J t x1 x2 68 59 = gr_len (cw_rem ((A 89 x2.toNatClampNeg - A 89 x1.toNatClampNeg) + 24) 24) (A 90 x1.toNatClampNeg) (A 90 x2.toNatClampNeg) ∧ qIm171_X12_goes_68 n I A J t x1 x2 68 60 = gr_sort (cw_rem ((A 89 x2.toNatClampNeg - A 89 x1.toNatClampNeg) + 24) 24) (A 90 x1.toNatClampNeg) (A 90 x2.toNatClampNeg) := by
    unfold qIm171_X12_goes_68 gr_len gr_sort
    rw [b1.1]
    have e : q129_X12_goes_68 n I A J t x1 x2 = gr_so (cw_rem ((A 89 x2.toNatClampNeg - A 89 x1.toNatClampNeg) + 24) 24) (A 90 x1.toNatClampNeg) (A 90 x2.toNatClampNeg) := rfl
    rw [e]
    split
    · exact b1
    · unfold qI182_X12_goes_68 qI177_X12_goes_68
      rw [cw_u_k _ _ (by decide), cw_u_s, cw_u_s]
      exact ⟨rfl, rfl⟩
  have d1 : qI199_X12_goes_68 n I A J t x1 x2 68 59 = gr_len (cw_rem ((A 89 x2.toNatClampNeg - A 89 x1.toNatClampNeg) + 24) 24) (A 90 x1.toNatClampNeg) (A 90 x2.toNatClampNeg) := by
    unfold qI199_X12_goes_68
    rw [cw_u_k _ _ (by decide)]; exact c1.1
  have d2 : qI199_X12_goes_68 n I A J t x1 x2 68 60 = gr_sort (cw_rem ((A 89 x2.toNatClampNeg - A 89 x1.toNatClampNeg) + 24) 24) (A 90 x1.toNatClampNeg) (A 90 x2.toNatClampNeg) := by
    unfold qI199_X12_goes_68
    rw [cw_u_k _ _ (by decide)]; exact c1.2
  have d3 : qI199_X12_goes_68 n I A J t x1 x2 68 61 = if gr_sort (cw_rem ((A 89 x2.toNatClampNeg - A 89 x1.toNatClampNeg) + 24) 24) (A 90 x1.toNatClampNeg) (A 90 x2.toNatClampNeg) = 2 then 4 else 0 := by
    unfold qI199_X12_goes_68 qs1m191_X12_goes_68
    rw [cw_u_s, c1.2]
  have es : qs0m211_X12_goes_68 n I A J t x1 x2 = gr_side (cw_rem ((A 89 x2.toNatClampNeg - A 89 x1.toNatClampNeg) + 24) 24) := rfl
  have eu : qs0m243_X12_goes_68 n I A J t x1 x2 = gr_up (A 90 x1.toNatClampNeg) (A 90 x2.toNatClampNeg) := rfl
  unfold pI_X12_goes_68 gr_aim
  rw [d2]
  split
  · unfold qIm274_X12_goes_68
    rw [es]
    split
    · unfold qI289_X12_goes_68
      rw [cw_u_k _ _ (by decide), cw_u_k _ _ (by decide), cw_u_s]
      exact ⟨d1, d2, rfl⟩
    · unfold qIm298_X12_goes_68
      rw [es]
      split
      · unfold qI323_X12_goes_68
        rw [cw_u_k _ _ (by decide), cw_u_k _ _ (by decide), cw_u_s]
        exact ⟨d1, d2, rfl⟩
      · unfold qI353_X12_goes_68
        rw [cw_u_k _ _ (by decide), cw_u_k _ _ (by decide), cw_u_s]
        exact ⟨d1, d2, rfl⟩
  · exact ⟨d1, d2, d3⟩
end Geo
/-- the turn east from one zone to another -/
theorem ge_on {a b : Nat} (ha : a < 24) (hb : b < 24) : ∃ o, o < 24 ∧ cw_rem ((nI a - nI b) + 24) 24 = nI o := by
  refine ⟨(a + 24 - b) % 24, Nat.mod_lt _ (by omega), ?_⟩
  have e : nI a - nI b + 24 = nI (a + 24 - b) := by
    rw [tI_eq, tI_nI (by omega)]
    have s := pk_sub_toInt (a := a) (b := b) (by omega) (by omega)
    rw [tI_add]
    · rw [s]
      have : (24 : Int32).toInt = 24 := rfl
      omega
    · rw [s]
      have : (24 : Int32).toInt = 24 := rfl
      omega
    · rw [s]
      have : (24 : Int32).toInt = 24 := rfl
      omega
  rw [e]
  exact nI_rem (by omega) (d := 24) (by omega) (by omega)
theorem gs_loc {a h : Nat} (ha : a < 24) (hh : h < 24) : ∃ l, l < 24 ∧ cw_rem (nI h + nI a) 24 = nI l := by
  rw [nI_add]
  exact ⟨(h + a) % 24, Nat.mod_lt _ (by omega), nI_rem (by omega) (d := 24) (by omega) (by omega)⟩
theorem gs_sea {d : Nat} (hd : d < 3600) : ∃ s, s < 4 ∧ cw_rem (nI d / 90) 4 = nI s := by
  have : nI d / 90 = nI (d / 90) := pk_div (d := 90) (by omega) (by omega) (by omega)
  rw [this]
  exact ⟨(d / 90) % 4, Nat.mod_lt _ (by omega), nI_rem (by omega) (d := 4) (by omega) (by omega)⟩
