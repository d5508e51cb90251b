def q4_X10_varOf_45 (n : Nat) (I : Nat → Nat → Int32) (A : Nat → Nat → Int32) (J : Nat → Nat → Int64) (t : Bool × Bool) (x1 : Int32) : Int32 := (x1 - 20)
def qs0m12_X10_varOf_45 (n : Nat) (I : Nat → Nat → Int32) (A : Nat → Nat → Int32) (J : Nat → Nat → Int64) (t : Bool × Bool) (x1 : Int32) : Int32 := if (nI 8) ≤ (q4_X10_varOf_45 n I A J t x1) then 0 else (A 45 ((q4_X10_varOf_45 n I A J t x1)).toNatClampNeg)
def qs0m6_X10_varOf_45 (n : Nat) (I : Nat → Nat → Int32) (A : Nat → Nat → Int32) (J : Nat → Nat → Int64) (t : Bool × Bool) (x1 : Int32) : Int32 := if (q4_X10_varOf_45 n I A J t x1) < 0 then 0 else (qs0m12_X10_varOf_45 n I A J t x1)
def pb_X10_varOf_45 (n : Nat) (I : Nat → Nat → Int32) (A : Nat → Nat → Int32) (J : Nat → Nat → Int64) (t : Bool × Bool) (x1 : Int32) : Prop := (¬ (q4_X10_varOf_45 n I A J t x1) < 0 → (¬ (nI 8) ≤ (q4_X10_varOf_45 n I A J t x1) → vp_in (q4_X10_varOf_45 n I A J t x1) 8))
def px_X10_varOf_45 (n : Nat) (I : Nat → Nat → Int32) (A : Nat → Nat → Int32) (J : Nat → Nat → Int64) (t : Bool × Bool) (x1 : Int32) : Int32 := (qs0m6_X10_varOf_45 n I A J t x1)
set_option maxRecDepth 100000 in
set_option maxHeartbeats 4000000 in
theorem cv_X10_varOf_45 (g : cw_G) (n : Nat) (I : Nat → Nat → Int32) (A : Nat → Nat → Int32) (J : Nat → Nat → Int64) (t : Bool × Bool) (x1 : Int32) (hb : pb_X10_varOf_45 n I A J t x1) : Cd g mX10_varOf [(.int x1), (.ref (cw_z g + 45))] (hp g I A J t) (some (.int (px_X10_varOf_45 n I A J t x1))) (hp g I A J t) := by
  unfold pb_X10_varOf_45 at hb
  unfold px_X10_varOf_45
  refine Cd.of rfl (Nat.le_of_ble_eq_true rfl) (ev_gen (fun Q hQ => ?_))
  refine ev_iload_n (pc := 0) dX10_varOf_0 rfl ?_
  refine ev_bipush (pc := 1) (v := 20) dX10_varOf_1 (by decide) ?_
  refine ev_isub (pc := 3) dX10_varOf_3 ?_
  refine ev_is (y := (q4_X10_varOf_45 n I A J t x1)) rfl ?_
  refine ev_istore_2 (pc := 4) dX10_varOf_4 (by decide) rfl ?_
  refine ev_iload_n (pc := 5) dX10_varOf_5 rfl ?_
  have hF_6 := hb
  refine ev_cut (pj := 22) (Lj := [some (.int x1), some (.ref (cw_z g + 45)), some (.int (q4_X10_varOf_45 n I A J t x1))]) (stj := [(.int (qs0m6_X10_varOf_45 n I A J t x1))]) (σj := hp g I A J t) ?_ (fun hJ_6 => ?_)
  rotate_left
  · refine ev_if_lt (pc := 6) (tgt := 21) dX10_varOf_6 (by decide) (fun c_6 => ?_) (fun c_6 => ?_)
    · refine ev_iconst (pc := 21) (v := 0) dX10_varOf_21 (by decide) ?_
      simp only [qs0m6_X10_varOf_45, if_pos c_6] at hJ_6
      exact ev_loc hJ_6 cw_le0
    · have hb := hF_6 c_6
      refine ev_iload_n (pc := 9) dX10_varOf_9 rfl ?_
      refine ev_aload_n (pc := 10) dX10_varOf_10 rfl ?_
      refine ev_alen (pc := 11) dX10_varOf_11 (show 45 < 120 by decide) rfl (by decide) ?_
      have hF_12 := hb
      refine ev_cut (pj := 22) (Lj := [some (.int x1), some (.ref (cw_z g + 45)), some (.int (q4_X10_varOf_45 n I A J t x1))]) (stj := [(.int (qs0m12_X10_varOf_45 n I A J t x1))]) (σj := hp g I A J t) ?_ (fun hJ_12 => ?_)
      rotate_left
      · refine ev_icmp_ge (pc := 12) (tgt := 21) dX10_varOf_12 (by decide) (fun c_12 => ?_) (fun c_12 => ?_)
        · refine ev_iconst (pc := 21) (v := 0) dX10_varOf_21 (by decide) ?_
          simp only [qs0m12_X10_varOf_45, if_pos c_12] at hJ_12
          exact ev_loc hJ_12 cw_le0
        · have hb := hF_12 c_12
          refine ev_aload_n (pc := 15) dX10_varOf_15 rfl ?_
          refine ev_iload_n (pc := 16) dX10_varOf_16 rfl ?_
          refine ev_iald (pc := 17) dX10_varOf_17 (by decide) rfl hb ?_
          refine ev_goto (pc := 18) (tgt := 22) dX10_varOf_18 (by decide) ?_
          simp only [qs0m12_X10_varOf_45, if_neg c_12] at hJ_12
          exact ev_loc hJ_12 cw_le0
      simp only [qs0m6_X10_varOf_45, if_neg c_6] at hJ_6
      exact ev_loc hJ_6 cw_le0
  exact ev_iret (pc := 22) dX10_varOf_22 rfl (by decide) (by decide) (hQ _ _ ⟨rfl, rfl⟩)

def qs0m11_X10_reckon (n : Nat) (I : Nat → Nat → Int32) (A : Nat → Nat → Int32) (J : Nat → Nat → Int64) (t : Bool × Bool) (x1 : Int32) (x2 : Int32) (x3 : Int32) : Int32 := if x1 = 5 then (x2 - x3) else (x2 * x3)
def px_X10_reckon (n : Nat) (I : Nat → Nat → Int32) (A : Nat → Nat → Int32) (J : Nat → Nat → Int64) (t : Bool × Bool) (x1 : Int32) (x2 : Int32) (x3 : Int32) : Int32 := (if x1 = 4 then (x2 + x3) else (qs0m11_X10_reckon n I A J t x1 x2 x3))
set_option maxRecDepth 100000 in
set_option maxHeartbeats 4000000 in
theorem cv_X10_reckon (g : cw_G) (n : Nat) (I : Nat → Nat → Int32) (A : Nat → Nat → Int32) (J : Nat → Nat → Int64) (t : Bool × Bool) (x1 : Int32) (x2 : Int32) (x3 : Int32) : Cd g mX10_reckon [(.int x1), (.int x2), (.int x3)] (hp g I A J t) (some (.int (px_X10_reckon n I A J t x1 x2 x3))) (hp g I A J t) := by
  unfold px_X10_reckon
  refine Cd.of rfl (Nat.le_of_ble_eq_true rfl) (ev_gen (fun Q hQ => ?_))
  refine ev_iload_n (pc := 0) dX10_reckon_0 rfl ?_
  refine ev_iconst (pc := 1) (v := 4) dX10_reckon_1 (by decide) ?_
  refine ev_icmp_ne (pc := 2) (tgt := 9) dX10_reckon_2 (by decide) (fun c_2 => ?_) (fun c_2 => ?_)
  · try simp only [if_neg c_2] at hQ
    refine ev_iload_n (pc := 9) dX10_reckon_9 rfl ?_
    refine ev_iconst (pc := 10) (v := 5) dX10_reckon_10 (by decide) ?_
    refine ev_cut (pj := 23) (Lj := [some (.int x1), some (.int x2), some (.int x3)]) (stj := [(.int (qs0m11_X10_reckon n I A J t x1 x2 x3))]) (σj := hp g I A J t) ?_ (fun hJ_11 => ?_)
    rotate_left
    · refine ev_icmp_ne (pc := 11) (tgt := 20) dX10_reckon_11 (by decide) (fun c_11 => ?_) (fun c_11 => ?_)
      · refine ev_iload_n (pc := 20) dX10_reckon_20 rfl ?_
        refine ev_iload_n (pc := 21) dX10_reckon_21 rfl ?_
        refine ev_imul (pc := 22) dX10_reckon_22 ?_
        simp only [qs0m11_X10_reckon, if_neg c_11] at hJ_11
        exact ev_loc hJ_11 cw_le0
      · refine ev_iload_n (pc := 14) dX10_reckon_14 rfl ?_
        refine ev_iload_n (pc := 15) dX10_reckon_15 rfl ?_
        refine ev_isub (pc := 16) dX10_reckon_16 ?_
        refine ev_goto (pc := 17) (tgt := 23) dX10_reckon_17 (by decide) ?_
        simp only [qs0m11_X10_reckon, if_pos c_11] at hJ_11
        exact ev_loc hJ_11 cw_le0
    exact ev_iret (pc := 23) dX10_reckon_23 rfl (by decide) (by decide) (hQ _ _ ⟨rfl, rfl⟩)
  · try simp only [if_pos c_2] at hQ
    refine ev_iload_n (pc := 5) dX10_reckon_5 rfl ?_
    refine ev_iload_n (pc := 6) dX10_reckon_6 rfl ?_
    refine ev_iadd (pc := 7) dX10_reckon_7 ?_
    exact ev_iret (pc := 8) dX10_reckon_8 rfl (by decide) (by decide) (hQ _ _ ⟨rfl, rfl⟩)

def qs0m30_X10_compares (n : Nat) (I : Nat → Nat → Int32) (A : Nat → Nat → Int32) (J : Nat → Nat → Int64) (t : Bool × Bool) (x1 : Int32) (x2 : Int32) (x3 : Int32) : Int32 := if x2 = x3 then 1 else 0
def qs0m41_X10_compares (n : Nat) (I : Nat → Nat → Int32) (A : Nat → Nat → Int32) (J : Nat → Nat → Int64) (t : Bool × Bool) (x1 : Int32) (x2 : Int32) (x3 : Int32) : Int32 := if x2 = x3 then 0 else 1
def qs0m52_X10_compares (n : Nat) (I : Nat → Nat → Int32) (A : Nat → Nat → Int32) (J : Nat → Nat → Int64) (t : Bool × Bool) (x1 : Int32) (x2 : Int32) (x3 : Int32) : Int32 := if x3 ≤ x2 then 0 else 1
def qs0m63_X10_compares (n : Nat) (I : Nat → Nat → Int32) (A : Nat → Nat → Int32) (J : Nat → Nat → Int64) (t : Bool × Bool) (x1 : Int32) (x2 : Int32) (x3 : Int32) : Int32 := if x3 < x2 then 0 else 1
def px_X10_compares (n : Nat) (I : Nat → Nat → Int32) (A : Nat → Nat → Int32) (J : Nat → Nat → Int64) (t : Bool × Bool) (x1 : Int32) (x2 : Int32) (x3 : Int32) : Int32 := (if x1 = 7 then (qs0m30_X10_compares n I A J t x1 x2 x3) else (if x1 = 8 then (qs0m41_X10_compares n I A J t x1 x2 x3) else (if x1 = 9 then (qs0m52_X10_compares n I A J t x1 x2 x3) else (qs0m63_X10_compares n I A J t x1 x2 x3))))
set_option maxRecDepth 100000 in
set_option maxHeartbeats 4000000 in
theorem cv_X10_compares (g : cw_G) (n : Nat) (I : Nat → Nat → Int32) (A : Nat → Nat → Int32) (J : Nat → Nat → Int64) (t : Bool × Bool) (x1 : Int32) (x2 : Int32) (x3 : Int32) : Cd g mX10_compares [(.int x1), (.int x2), (.int x3)] (hp g I A J t) (some (.int (px_X10_compares n I A J t x1 x2 x3))) (hp g I A J t) := by
  unfold px_X10_compares
  refine Cd.of rfl (Nat.le_of_ble_eq_true rfl) (ev_gen (fun Q hQ => ?_))
  refine ev_iload_n (pc := 0) dX10_compares_0 rfl ?_
  by_cases s_1_7 : x1 = 7
  · try simp only [if_pos s_1_7] at hQ
    refine ev_tableIn (pc := 1) (tgt := 28) (off := 27) dX10_compares_1 (by rw [s_1_7]; decide) (by rw [s_1_7]; decide) (by rw [s_1_7]; decide) (by decide) ?_
    refine ev_iload_n (pc := 28) dX10_compares_28 rfl ?_
    refine ev_iload_n (pc := 29) dX10_compares_29 rfl ?_
    refine ev_cut (pj := 38) (Lj := [some (.int x1), some (.int x2), some (.int x3)]) (stj := [(.int (qs0m30_X10_compares n I A J t x1 x2 x3))]) (σj := hp g I A J t) ?_ (fun hJ_30 => ?_)
    rotate_left
    · refine ev_icmp_ne (pc := 30) (tgt := 37) dX10_compares_30 (by decide) (fun c_30 => ?_) (fun c_30 => ?_)
      · refine ev_iconst (pc := 37) (v := 0) dX10_compares_37 (by decide) ?_
        simp only [qs0m30_X10_compares, if_neg c_30] at hJ_30
        exact ev_loc hJ_30 cw_le0
      · refine ev_iconst (pc := 33) (v := 1) dX10_compares_33 (by decide) ?_
        refine ev_goto (pc := 34) (tgt := 38) dX10_compares_34 (by decide) ?_
        simp only [qs0m30_X10_compares, if_pos c_30] at hJ_30
        exact ev_loc hJ_30 cw_le0
    exact ev_zret (pc := 38) dX10_compares_38 rfl (cw_nz (cw_ite (Or.inr rfl) (Or.inl rfl))) (by decide) (by decide) (hQ _ _ ⟨rfl, rfl⟩)
  try simp only [if_neg s_1_7] at hQ
  by_cases s_1_8 : x1 = 8
  · try simp only [if_pos s_1_8] at hQ
    refine ev_tableIn (pc := 1) (tgt := 39) (off := 38) dX10_compares_1 (by rw [s_1_8]; decide) (by rw [s_1_8]; decide) (by rw [s_1_8]; decide) (by decide) ?_
    refine ev_iload_n (pc := 39) dX10_compares_39 rfl ?_
    refine ev_iload_n (pc := 40) dX10_compares_40 rfl ?_
    refine ev_cut (pj := 49) (Lj := [some (.int x1), some (.int x2), some (.int x3)]) (stj := [(.int (qs0m41_X10_compares n I A J t x1 x2 x3))]) (σj := hp g I A J t) ?_ (fun hJ_41 => ?_)
    rotate_left
    · refine ev_icmp_eq (pc := 41) (tgt := 48) dX10_compares_41 (by decide) (fun c_41 => ?_) (fun c_41 => ?_)
      · refine ev_iconst (pc := 48) (v := 0) dX10_compares_48 (by decide) ?_
        simp only [qs0m41_X10_compares, if_pos c_41] at hJ_41
        exact ev_loc hJ_41 cw_le0
      · refine ev_iconst (pc := 44) (v := 1) dX10_compares_44 (by decide) ?_
        refine ev_goto (pc := 45) (tgt := 49) dX10_compares_45 (by decide) ?_
        simp only [qs0m41_X10_compares, if_neg c_41] at hJ_41
        exact ev_loc hJ_41 cw_le0
    exact ev_zret (pc := 49) dX10_compares_49 rfl (cw_nz (cw_ite (Or.inl rfl) (Or.inr rfl))) (by decide) (by decide) (hQ _ _ ⟨rfl, rfl⟩)
  try simp only [if_neg s_1_8] at hQ
  by_cases s_1_9 : x1 = 9
  · try simp only [if_pos s_1_9] at hQ
    refine ev_tableIn (pc := 1) (tgt := 50) (off := 49) dX10_compares_1 (by rw [s_1_9]; decide) (by rw [s_1_9]; decide) (by rw [s_1_9]; decide) (by decide) ?_
    refine ev_iload_n (pc := 50) dX10_compares_50 rfl ?_
    refine ev_iload_n (pc := 51) dX10_compares_51 rfl ?_
    refine ev_cut (pj := 60) (Lj := [some (.int x1), some (.int x2), some (.int x3)]) (stj := [(.int (qs0m52_X10_compares n I A J t x1 x2 x3))]) (σj := hp g I A J t) ?_ (fun hJ_52 => ?_)
    rotate_left
    · refine ev_icmp_ge (pc := 52) (tgt := 59) dX10_compares_52 (by decide) (fun c_52 => ?_) (fun c_52 => ?_)
      · refine ev_iconst (pc := 59) (v := 0) dX10_compares_59 (by decide) ?_
        simp only [qs0m52_X10_compares, if_pos c_52] at hJ_52
        exact ev_loc hJ_52 cw_le0
      · refine ev_iconst (pc := 55) (v := 1) dX10_compares_55 (by decide) ?_
        refine ev_goto (pc := 56) (tgt := 60) dX10_compares_56 (by decide) ?_
        simp only [qs0m52_X10_compares, if_neg c_52] at hJ_52
        exact ev_loc hJ_52 cw_le0
    exact ev_zret (pc := 60) dX10_compares_60 rfl (cw_nz (cw_ite (Or.inl rfl) (Or.inr rfl))) (by decide) (by decide) (hQ _ _ ⟨rfl, rfl⟩)
  try simp only [if_neg s_1_9] at hQ
  refine ev_tableOut (pc := 1) (tgt := 61) dX10_compares_1 (by simp only [← Int32.toInt_inj, Int32.reduceToInt] at s_1_7 s_1_8 s_1_9; omega) (by decide) ?_
  refine ev_iload_n (pc := 61) dX10_compares_61 rfl ?_
  refine ev_iload_n (pc := 62) dX10_compares_62 rfl ?_
  refine ev_cut (pj := 71) (Lj := [some (.int x1), some (.int x2), some (.int x3)]) (stj := [(.int (qs0m63_X10_compares n I A J t x1 x2 x3))]) (σj := hp g I A J t) ?_ (fun hJ_63 => ?_)
  rotate_left
  · refine ev_icmp_gt (pc := 63) (tgt := 70) dX10_compares_63 (by decide) (fun c_63 => ?_) (fun c_63 => ?_)
    · refine ev_iconst (pc := 70) (v := 0) dX10_compares_70 (by decide) ?_
      simp only [qs0m63_X10_compares, if_pos c_63] at hJ_63
      exact ev_loc hJ_63 cw_le0
    · refine ev_iconst (pc := 66) (v := 1) dX10_compares_66 (by decide) ?_
      refine ev_goto (pc := 67) (tgt := 71) dX10_compares_67 (by decide) ?_
      simp only [qs0m63_X10_compares, if_neg c_63] at hJ_63
      exact ev_loc hJ_63 cw_le0
  exact ev_zret (pc := 71) dX10_compares_71 rfl (cw_nz (cw_ite (Or.inl rfl) (Or.inr rfl))) (by decide) (by decide) (hQ _ _ ⟨rfl, rfl⟩)

def qI2_X10_renew_37 (n : Nat) (I : Nat → Nat → Int32) (A : Nat → Nat → Int32) (J : Nat → Nat → Int64) (t : Bool × Bool) : Nat → Nat → Int32 := cw_u I 37 8 0
def qI7_X10_renew_37 (n : Nat) (I : Nat → Nat → Int32) (A : Nat → Nat → Int32) (J : Nat → Nat → Int64) (t : Bool × Bool) : Nat → Nat → Int32 := cw_u (qI2_X10_renew_37 n I A J t) 37 7 0
def pI_X10_renew_37 (n : Nat) (I : Nat → Nat → Int32) (A : Nat → Nat → Int32) (J : Nat → Nat → Int64) (t : Bool × Bool) : Nat → Nat → Int32 := (qI7_X10_renew_37 n I A J t)
set_option maxRecDepth 100000 in
set_option maxHeartbeats 4000000 in
theorem cv_X10_renew_37 (g : cw_G) (n : Nat) (I : Nat → Nat → Int32) (A : Nat → Nat → Int32) (J : Nat → Nat → Int64) (t : Bool × Bool) : Cd g mX10_renew [(.ref (cw_z g + 37))] (hp g I A J t) none (hp g (pI_X10_renew_37 n I A J t) A J t) := by
  unfold pI_X10_renew_37
  refine Cd.of rfl (Nat.le_of_ble_eq_true rfl) (ev_gen (fun Q hQ => ?_))
  refine ev_aload_n (pc := 0) dX10_renew_0 rfl ?_
  refine ev_iconst (pc := 1) (v := 0) dX10_renew_1 (by decide) ?_
  refine tw_puti (pc := 2) (I2 := (qI2_X10_renew_37 n I A J t)) dX10_renew_2 fp_X10_38 (by decide) rfl rfl rfl ?_
  refine ev_aload_n (pc := 5) dX10_renew_5 rfl ?_
  refine ev_iconst (pc := 6) (v := 0) dX10_renew_6 (by decide) ?_
  refine tw_puti (pc := 7) (I2 := (qI7_X10_renew_37 n I A J t)) dX10_renew_7 fp_X10_34 (by decide) rfl rfl rfl ?_
  exact ev_vret (pc := 10) dX10_renew_10 rfl (by decide) (by decide) (hQ _ _ ⟨rfl, rfl⟩)

def qA19_X10_addStep_37 (n : Nat) (I : Nat → Nat → Int32) (A : Nat → Nat → Int32) (J : Nat → Nat → Int64) (t : Bool × Bool) (x1 : Int32) (x2 : Int32) : Nat → Nat → Int32 := cw_u A 42 ((I 37 7)).toNatClampNeg x1
def qA29_X10_addStep_37 (n : Nat) (I : Nat → Nat → Int32) (A : Nat → Nat → Int32) (J : Nat → Nat → Int64) (t : Bool × Bool) (x1 : Int32) (x2 : Int32) : Nat → Nat → Int32 := cw_u (qA19_X10_addStep_37 n I A J t x1 x2) 43 ((I 37 7)).toNatClampNeg x2
def qI37_X10_addStep_37 (n : Nat) (I : Nat → Nat → Int32) (A : Nat → Nat → Int32) (J : Nat → Nat → Int64) (t : Bool × Bool) (x1 : Int32) (x2 : Int32) : Nat → Nat → Int32 := cw_u I 37 7 ((I 37 7) + 1)
def qIm7_X10_addStep_37 (n : Nat) (I : Nat → Nat → Int32) (A : Nat → Nat → Int32) (J : Nat → Nat → Int64) (t : Bool × Bool) (x1 : Int32) (x2 : Int32) : Nat → Nat → Int32 := if 400 ≤ (I 37 7) then I else (qI37_X10_addStep_37 n I A J t x1 x2)
def qAm7_X10_addStep_37 (n : Nat) (I : Nat → Nat → Int32) (A : Nat → Nat → Int32) (J : Nat → Nat → Int64) (t : Bool × Bool) (x1 : Int32) (x2 : Int32) : Nat → Nat → Int32 := if 400 ≤ (I 37 7) then A else (qA29_X10_addStep_37 n I A J t x1 x2)
def pb_X10_addStep_37 (n : Nat) (I : Nat → Nat → Int32) (A : Nat → Nat → Int32) (J : Nat → Nat → Int64) (t : Bool × Bool) (x1 : Int32) (x2 : Int32) : Prop := (¬ 400 ≤ (I 37 7) → vp_in (I 37 7) 400 ∧ vp_in (I 37 7) 400)
def pI_X10_addStep_37 (n : Nat) (I : Nat → Nat → Int32) (A : Nat → Nat → Int32) (J : Nat → Nat → Int64) (t : Bool × Bool) (x1 : Int32) (x2 : Int32) : Nat → Nat → Int32 := (qIm7_X10_addStep_37 n I A J t x1 x2)
def pA_X10_addStep_37 (n : Nat) (I : Nat → Nat → Int32) (A : Nat → Nat → Int32) (J : Nat → Nat → Int64) (t : Bool × Bool) (x1 : Int32) (x2 : Int32) : Nat → Nat → Int32 := (qAm7_X10_addStep_37 n I A J t x1 x2)
set_option maxRecDepth 100000 in
set_option maxHeartbeats 4000000 in
theorem cv_X10_addStep_37 (g : cw_G) (n : Nat) (I : Nat → Nat → Int32) (A : Nat → Nat → Int32) (J : Nat → Nat → Int64) (t : Bool × Bool) (x1 : Int32) (x2 : Int32) (hb : pb_X10_addStep_37 n I A J t x1 x2) : Cd g mX10_addStep [(.ref (cw_z g + 37)), (.int x1), (.int x2)] (hp g I A J t) none (hp g (pI_X10_addStep_37 n I A J t x1 x2) (pA_X10_addStep_37 n I A J t x1 x2) J t) := by
  unfold pb_X10_addStep_37 at hb
  unfold pI_X10_addStep_37 pA_X10_addStep_37
  refine Cd.of rfl (Nat.le_of_ble_eq_true rfl) (ev_gen (fun Q hQ => ?_))
  refine ev_aload_n (pc := 0) dX10_addStep_0 rfl ?_
  refine tv_geti (pc := 1) dX10_addStep_1 fl_X10_34 (by decide) rfl rfl ?_
  refine ev_sipush (pc := 4) (v := 400) dX10_addStep_4 (by decide) ?_
  have hF_7 := hb
  refine ev_cut (pj := 40) (Lj := [some (.ref (cw_z g + 37)), some (.int x1), some (.int x2)]) (stj := []) (σj := hp g (qIm7_X10_addStep_37 n I A J t x1 x2) (qAm7_X10_addStep_37 n I A J t x1 x2) J t) ?_ (fun hJ_7 => ?_)
  rotate_left
  · refine ev_icmp_ge (pc := 7) (tgt := 40) dX10_addStep_7 (by decide) (fun c_7 => ?_) (fun c_7 => ?_)
    · simp only [qIm7_X10_addStep_37, qAm7_X10_addStep_37, if_pos c_7] at hJ_7
      exact ev_loc hJ_7 cw_le0
    · have hb := hF_7 c_7
      refine ev_aload_n (pc := 10) dX10_addStep_10 rfl ?_
      refine tv_getr (pc := 11) (d := 42) dX10_addStep_11 fl_X10_25 (by decide) rfl rfl ?_
      refine ev_aload_n (pc := 14) dX10_addStep_14 rfl ?_
      refine tv_geti (pc := 15) dX10_addStep_15 fl_X10_34 (by decide) rfl rfl ?_
      refine ev_iload_n (pc := 18) dX10_addStep_18 rfl ?_
      refine tw_iast (pc := 19) (A2 := (qA19_X10_addStep_37 n I A J t x1 x2)) dX10_addStep_19 (by decide) rfl hb.1 rfl ?_
      replace hb := hb.2
      refine ev_aload_n (pc := 20) dX10_addStep_20 rfl ?_
      refine tv_getr (pc := 21) (d := 43) dX10_addStep_21 fl_X10_28 (by decide) rfl rfl ?_
      refine ev_aload_n (pc := 24) dX10_addStep_24 rfl ?_
      refine tv_geti (pc := 25) dX10_addStep_25 fl_X10_34 (by decide) rfl rfl ?_
      refine ev_iload_n (pc := 28) dX10_addStep_28 rfl ?_
      refine tw_iast (pc := 29) (A2 := (qA29_X10_addStep_37 n I A J t x1 x2)) dX10_addStep_29 (by decide) rfl hb rfl ?_
      refine ev_aload_n (pc := 30) dX10_addStep_30 rfl ?_
      refine ev_dup (pc := 31) dX10_addStep_31 rfl ?_
      refine tv_geti (pc := 32) dX10_addStep_32 fl_X10_34 (by decide) rfl rfl ?_
      refine ev_iconst (pc := 35) (v := 1) dX10_addStep_35 (by decide) ?_
      refine ev_iadd (pc := 36) dX10_addStep_36 ?_
      refine tw_puti (pc := 37) (I2 := (qI37_X10_addStep_37 n I A J t x1 x2)) dX10_addStep_37 fp_X10_34 (by decide) rfl rfl rfl ?_
      simp only [qIm7_X10_addStep_37, qAm7_X10_addStep_37, if_neg c_7] at hJ_7
      exact ev_loc hJ_7 cw_le0
  exact ev_vret (pc := 40) dX10_addStep_40 rfl (by decide) (by decide) (hQ _ _ ⟨rfl, rfl⟩)

def qA18_X10_addRule_37 (n : Nat) (I : Nat → Nat → Int32) (A : Nat → Nat → Int32) (J : Nat → Nat → Int64) (t : Bool × Bool) (x1 : Int32) (x2 : Int32) (x3 : Int32) : Nat → Nat → Int32 := cw_u A 38 ((I 37 8)).toNatClampNeg (vp_nar .boolean x1)
def qA28_X10_addRule_37 (n : Nat) (I : Nat → Nat → Int32) (A : Nat → Nat → Int32) (J : Nat → Nat → Int64) (t : Bool × Bool) (x1 : Int32) (x2 : Int32) (x3 : Int32) : Nat → Nat → Int32 := cw_u (qA18_X10_addRule_37 n I A J t x1 x2 x3) 39 ((I 37 8)).toNatClampNeg x2
def qA38_X10_addRule_37 (n : Nat) (I : Nat → Nat → Int32) (A : Nat → Nat → Int32) (J : Nat → Nat → Int64) (t : Bool × Bool) (x1 : Int32) (x2 : Int32) (x3 : Int32) : Nat → Nat → Int32 := cw_u (qA28_X10_addRule_37 n I A J t x1 x2 x3) 40 ((I 37 8)).toNatClampNeg x3
def qA51_X10_addRule_37 (n : Nat) (I : Nat → Nat → Int32) (A : Nat → Nat → Int32) (J : Nat → Nat → Int64) (t : Bool × Bool) (x1 : Int32) (x2 : Int32) (x3 : Int32) : Nat → Nat → Int32 := cw_u (qA38_X10_addRule_37 n I A J t x1 x2 x3) 41 ((I 37 8)).toNatClampNeg (I 37 7)
def qI59_X10_addRule_37 (n : Nat) (I : Nat → Nat → Int32) (A : Nat → Nat → Int32) (J : Nat → Nat → Int64) (t : Bool × Bool) (x1 : Int32) (x2 : Int32) (x3 : Int32) : Nat → Nat → Int32 := cw_u I 37 8 ((I 37 8) + 1)
def qIm6_X10_addRule_37 (n : Nat) (I : Nat → Nat → Int32) (A : Nat → Nat → Int32) (J : Nat → Nat → Int64) (t : Bool × Bool) (x1 : Int32) (x2 : Int32) (x3 : Int32) : Nat → Nat → Int32 := if 20 ≤ (I 37 8) then I else (qI59_X10_addRule_37 n I A J t x1 x2 x3)
def qAm6_X10_addRule_37 (n : Nat) (I : Nat → Nat → Int32) (A : Nat → Nat → Int32) (J : Nat → Nat → Int64) (t : Bool × Bool) (x1 : Int32) (x2 : Int32) (x3 : Int32) : Nat → Nat → Int32 := if 20 ≤ (I 37 8) then A else (qA51_X10_addRule_37 n I A J t x1 x2 x3)
def pb_X10_addRule_37 (n : Nat) (I : Nat → Nat → Int32) (A : Nat → Nat → Int32) (J : Nat → Nat → Int64) (t : Bool × Bool) (x1 : Int32) (x2 : Int32) (x3 : Int32) : Prop := (¬ 20 ≤ (I 37 8) → vp_in (I 37 8) 20 ∧ vp_in (I 37 8) 20 ∧ vp_in (I 37 8) 20 ∧ vp_in (I 37 8) 20)
def pI_X10_addRule_37 (n : Nat) (I : Nat → Nat → Int32) (A : Nat → Nat → Int32) (J : Nat → Nat → Int64) (t : Bool × Bool) (x1 : Int32) (x2 : Int32) (x3 : Int32) : Nat → Nat → Int32 := (qIm6_X10_addRule_37 n I A J t x1 x2 x3)
def pA_X10_addRule_37 (n : Nat) (I : Nat → Nat → Int32) (A : Nat → Nat → Int32) (J : Nat → Nat → Int64) (t : Bool × Bool) (x1 : Int32) (x2 : Int32) (x3 : Int32) : Nat → Nat → Int32 := (qAm6_X10_addRule_37 n I A J t x1 x2 x3)
set_option maxRecDepth 100000 in
set_option maxHeartbeats 4000000 in
theorem cv_X10_addRule_37 (g : cw_G) (n : Nat) (I : Nat → Nat → Int32) (A : Nat → Nat → Int32) (J : Nat → Nat → Int64) (t : Bool × Bool) (x1 : Int32) (x2 : Int32) (x3 : Int32) (hb : pb_X10_addRule_37 n I A J t x1 x2 x3) : Cd g mX10_addRule [(.ref (cw_z g + 37)), (.int x1), (.int x2), (.int x3)] (hp g I A J t) none (hp g (pI_X10_addRule_37 n I A J t x1 x2 x3) (pA_X10_addRule_37 n I A J t x1 x2 x3) J t) := by
  unfold pb_X10_addRule_37 at hb
  unfold pI_X10_addRule_37 pA_X10_addRule_37
  refine Cd.of rfl (Nat.le_of_ble_eq_true rfl) (ev_gen (fun Q hQ => ?_))
  refine ev_aload_n (pc := 0) dX10_addRule_0 rfl ?_
  refine tv_geti (pc := 1) dX10_addRule_1 fl_X10_38 (by decide) rfl rfl ?_
  refine ev_bipush (pc := 4) (v := 20) dX10_addRule_4 (by decide) ?_
  have hF_6 := hb
  refine ev_cut (pj := 62) (Lj := [some (.ref (cw_z g + 37)), some (.int x1), some (.int x2), some (.int x3)]) (stj := []) (σj := hp g (qIm6_X10_addRule_37 n I A J t x1 x2 x3) (qAm6_X10_addRule_37 n I A J t x1 x2 x3) J t) ?_ (fun hJ_6 => ?_)
  rotate_left
  · refine ev_icmp_ge (pc := 6) (tgt := 62) dX10_addRule_6 (by decide) (fun c_6 => ?_) (fun c_6 => ?_)
    · simp only [qIm6_X10_addRule_37, qAm6_X10_addRule_37, if_pos c_6] at hJ_6
      exact ev_loc hJ_6 cw_le0
    · have hb := hF_6 c_6
      refine ev_aload_n (pc := 9) dX10_addRule_9 rfl ?_
      refine tv_getr (pc := 10) (d := 38) dX10_addRule_10 fl_X10_9 (by decide) rfl rfl ?_
      refine ev_aload_n (pc := 13) dX10_addRule_13 rfl ?_
      refine tv_geti (pc := 14) dX10_addRule_14 fl_X10_38 (by decide) rfl rfl ?_
      refine ev_iload_n (pc := 17) dX10_addRule_17 rfl ?_
      refine tw_zast (pc := 18) (A2 := (qA18_X10_addRule_37 n I A J t x1 x2 x3)) dX10_addRule_18 (by decide) rfl hb.1 rfl ?_
      replace hb := hb.2
      refine ev_aload_n (pc := 19) dX10_addRule_19 rfl ?_
      refine tv_getr (pc := 20) (d := 39) dX10_addRule_20 fl_X10_15 (by decide) rfl rfl ?_
      refine ev_aload_n (pc := 23) dX10_addRule_23 rfl ?_
      refine tv_geti (pc := 24) dX10_addRule_24 fl_X10_38 (by decide) rfl rfl ?_
      refine ev_iload_n (pc := 27) dX10_addRule_27 rfl ?_
      refine tw_iast (pc := 28) (A2 := (qA28_X10_addRule_37 n I A J t x1 x2 x3)) dX10_addRule_28 (by decide) rfl hb.1 rfl ?_
      replace hb := hb.2
      refine ev_aload_n (pc := 29) dX10_addRule_29 rfl ?_
      refine tv_getr (pc := 30) (d := 40) dX10_addRule_30 fl_X10_19 (by decide) rfl rfl ?_
      refine ev_aload_n (pc := 33) dX10_addRule_33 rfl ?_
      refine tv_geti (pc := 34) dX10_addRule_34 fl_X10_38 (by decide) rfl rfl ?_
      refine ev_iload_n (pc := 37) dX10_addRule_37 rfl ?_
      refine tw_iast (pc := 38) (A2 := (qA38_X10_addRule_37 n I A J t x1 x2 x3)) dX10_addRule_38 (by decide) rfl hb.1 rfl ?_
      replace hb := hb.2
      refine ev_aload_n (pc := 39) dX10_addRule_39 rfl ?_
      refine tv_getr (pc := 40) (d := 41) dX10_addRule_40 fl_X10_22 (by decide) rfl rfl ?_
      refine ev_aload_n (pc := 43) dX10_addRule_43 rfl ?_
      refine tv_geti (pc := 44) dX10_addRule_44 fl_X10_38 (by decide) rfl rfl ?_
      refine ev_aload_n (pc := 47) dX10_addRule_47 rfl ?_
      refine tv_geti (pc := 48) dX10_addRule_48 fl_X10_34 (by decide) rfl rfl ?_
      refine tw_iast (pc := 51) (A2 := (qA51_X10_addRule_37 n I A J t x1 x2 x3)) dX10_addRule_51 (by decide) rfl hb rfl ?_
      refine ev_aload_n (pc := 52) dX10_addRule_52 rfl ?_
      refine ev_dup (pc := 53) dX10_addRule_53 rfl ?_
      refine tv_geti (pc := 54) dX10_addRule_54 fl_X10_38 (by decide) rfl rfl ?_
      refine ev_iconst (pc := 57) (v := 1) dX10_addRule_57 (by decide) ?_
      refine ev_iadd (pc := 58) dX10_addRule_58 ?_
      refine tw_puti (pc := 59) (I2 := (qI59_X10_addRule_37 n I A J t x1 x2 x3)) dX10_addRule_59 fp_X10_38 (by decide) rfl rfl rfl ?_
      simp only [qIm6_X10_addRule_37, qAm6_X10_addRule_37, if_neg c_6] at hJ_6
      exact ev_loc hJ_6 cw_le0
  exact ev_vret (pc := 62) dX10_addRule_62 rfl (by decide) (by decide) (hQ _ _ ⟨rfl, rfl⟩)

def qs0m18_X10_weYieldBy_37 (n : Nat) (I : Nat → Nat → Int32) (A : Nat → Nat → Int32) (J : Nat → Nat → Int64) (t : Bool × Bool) (x1 : Int32) : Int32 := if (A 38 (x1).toNatClampNeg) = 0 then 1 else 0
def qs0m9_X10_weYieldBy_37 (n : Nat) (I : Nat → Nat → Int32) (A : Nat → Nat → Int32) (J : Nat → Nat → Int64) (t : Bool × Bool) (x1 : Int32) : Int32 := if (I 37 8) ≤ x1 then 1 else (qs0m18_X10_weYieldBy_37 n I A J t x1)
def qs0m1_X10_weYieldBy_37 (n : Nat) (I : Nat → Nat → Int32) (A : Nat → Nat → Int32) (J : Nat → Nat → Int64) (t : Bool × Bool) (x1 : Int32) : Int32 := if x1 < 0 then 1 else (qs0m9_X10_weYieldBy_37 n I A J t x1)
def pb_X10_weYieldBy_37 (n : Nat) (I : Nat → Nat → Int32) (A : Nat → Nat → Int32) (J : Nat → Nat → Int64) (t : Bool × Bool) (x1 : Int32) : Prop := (¬ x1 < 0 → (¬ (I 37 8) ≤ x1 → vp_in x1 20))
def px_X10_weYieldBy_37 (n : Nat) (I : Nat → Nat → Int32) (A : Nat → Nat → Int32) (J : Nat → Nat → Int64) (t : Bool × Bool) (x1 : Int32) : Int32 := (qs0m1_X10_weYieldBy_37 n I A J t x1)
set_option maxRecDepth 100000 in
set_option maxHeartbeats 4000000 in
theorem cv_X10_weYieldBy_37 (g : cw_G) (n : Nat) (I : Nat → Nat → Int32) (A : Nat → Nat → Int32) (J : Nat → Nat → Int64) (t : Bool × Bool) (x1 : Int32) (hb : pb_X10_weYieldBy_37 n I A J t x1) : Cd g mX10_weYieldBy [(.ref (cw_z g + 37)), (.int x1)] (hp g I A J t) (some (.int (px_X10_weYieldBy_37 n I A J t x1))) (hp g I A J t) := by
  unfold pb_X10_weYieldBy_37 at hb
  unfold px_X10_weYieldBy_37
  refine Cd.of rfl (Nat.le_of_ble_eq_true rfl) (ev_gen (fun Q hQ => ?_))
  refine ev_iload_n (pc := 0) dX10_weYieldBy_0 rfl ?_
  have hF_1 := hb
  refine ev_cut (pj := 26) (Lj := [some (.ref (cw_z g + 37)), some (.int x1)]) (stj := [(.int (qs0m1_X10_weYieldBy_37 n I A J t x1))]) (σj := hp g I A J t) ?_ (fun hJ_1 => ?_)
  rotate_left
  · refine ev_if_lt (pc := 1) (tgt := 21) dX10_weYieldBy_1 (by decide) (fun c_1 => ?_) (fun c_1 => ?_)
    · refine ev_iconst (pc := 21) (v := 1) dX10_weYieldBy_21 (by decide) ?_
      refine ev_goto (pc := 22) (tgt := 26) dX10_weYieldBy_22 (by decide) ?_
      simp only [qs0m1_X10_weYieldBy_37, if_pos c_1] at hJ_1
      exact ev_loc hJ_1 cw_le0
    · have hb := hF_1 c_1
      refine ev_iload_n (pc := 4) dX10_weYieldBy_4 rfl ?_
      refine ev_aload_n (pc := 5) dX10_weYieldBy_5 rfl ?_
      refine tv_geti (pc := 6) dX10_weYieldBy_6 fl_X10_38 (by decide) rfl rfl ?_
      have hF_9 := hb
      refine ev_cut (pj := 26) (Lj := [some (.ref (cw_z g + 37)), some (.int x1)]) (stj := [(.int (qs0m9_X10_weYieldBy_37 n I A J t x1))]) (σj := hp g I A J t) ?_ (fun hJ_9 => ?_)
      rotate_left
      · refine ev_icmp_ge (pc := 9) (tgt := 21) dX10_weYieldBy_9 (by decide) (fun c_9 => ?_) (fun c_9 => ?_)
        · refine ev_iconst (pc := 21) (v := 1) dX10_weYieldBy_21 (by decide) ?_
          refine ev_goto (pc := 22) (tgt := 26) dX10_weYieldBy_22 (by decide) ?_
          simp only [qs0m9_X10_weYieldBy_37, if_pos c_9] at hJ_9
          exact ev_loc hJ_9 cw_le0
        · have hb := hF_9 c_9
          refine ev_aload_n (pc := 12) dX10_weYieldBy_12 rfl ?_
          refine tv_getr (pc := 13) (d := 38) dX10_weYieldBy_13 fl_X10_9 (by decide) rfl rfl ?_
          refine ev_iload_n (pc := 16) dX10_weYieldBy_16 rfl ?_
          refine ev_zald (pc := 17) dX10_weYieldBy_17 (by decide) rfl hb ?_
          refine ev_cut (pj := 26) (Lj := [some (.ref (cw_z g + 37)), some (.int x1)]) (stj := [(.int (qs0m18_X10_weYieldBy_37 n I A J t x1))]) (σj := hp g I A J t) ?_ (fun hJ_18 => ?_)
          rotate_left
          · refine ev_if_ne (pc := 18) (tgt := 25) dX10_weYieldBy_18 (by decide) (fun c_18 => ?_) (fun c_18 => ?_)
            · refine ev_iconst (pc := 25) (v := 0) dX10_weYieldBy_25 (by decide) ?_
              simp only [qs0m18_X10_weYieldBy_37, if_neg c_18] at hJ_18
              exact ev_loc hJ_18 cw_le0
            · refine ev_iconst (pc := 21) (v := 1) dX10_weYieldBy_21 (by decide) ?_
              refine ev_goto (pc := 22) (tgt := 26) dX10_weYieldBy_22 (by decide) ?_
              simp only [qs0m18_X10_weYieldBy_37, if_pos c_18] at hJ_18
              exact ev_loc hJ_18 cw_le0
          simp only [qs0m9_X10_weYieldBy_37, if_neg c_9] at hJ_9
          exact ev_loc hJ_9 cw_le0
      simp only [qs0m1_X10_weYieldBy_37, if_neg c_1] at hJ_1
      exact ev_loc hJ_1 cw_le0
  exact ev_zret (pc := 26) dX10_weYieldBy_26 rfl (cw_nz (cw_ite (Or.inr rfl) (cw_ite (Or.inr rfl) (cw_ite (Or.inr rfl) (Or.inl rfl))))) (by decide) (by decide) (hQ _ _ ⟨rfl, rfl⟩)

theorem z1_X10_weYieldBy_37 (n : Nat) (I : Nat → Nat → Int32) (A : Nat → Nat → Int32) (J : Nat → Nat → Int64) (t : Bool × Bool) (x1 : Int32) : px_X10_weYieldBy_37 n I A J t x1 = 0 ∨ px_X10_weYieldBy_37 n I A J t x1 = 1 := (cw_ite (Or.inr rfl) (cw_ite (Or.inr rfl) (cw_ite (Or.inr rfl) (Or.inl rfl))))

def qs0m3_X10_relsHold_37_45 (n : Nat) (I : Nat → Nat → Int32) (A : Nat → Nat → Int32) (J : Nat → Nat → Int64) (t : Bool × Bool) (x1 : Int32) : Int32 := if x1 = 0 then 0 else (A 41 ((x1 - 1)).toNatClampNeg)
def q38_X10_relsHold_37_45 (n : Nat) (I : Nat → Nat → Int32) (A : Nat → Nat → Int32) (J : Nat → Nat → Int64) (t : Bool × Bool) (x1 : Int32) (A20 : Nat → Nat → Int32) (v20_3 : Int32) (v20_4 : Int32) : Int32 := (A20 42 (v20_4).toNatClampNeg)
def qA88_X10_relsHold_37_45 (n : Nat) (I : Nat → Nat → Int32) (A : Nat → Nat → Int32) (J : Nat → Nat → Int64) (t : Bool × Bool) (x1 : Int32) (A20 : Nat → Nat → Int32) (v20_3 : Int32) (v20_4 : Int32) : Nat → Nat → Int32 := cw_u A20 44 (v20_3).toNatClampNeg (A20 43 (v20_4).toNatClampNeg)
def q89_X10_relsHold_37_45 (n : Nat) (I : Nat → Nat → Int32) (A : Nat → Nat → Int32) (J : Nat → Nat → Int64) (t : Bool × Bool) (x1 : Int32) (A20 : Nat → Nat → Int32) (v20_3 : Int32) (v20_4 : Int32) : Int32 := v20_3 + 1
def q167_X10_relsHold_37_45 (n : Nat) (I : Nat → Nat → Int32) (A : Nat → Nat → Int32) (J : Nat → Nat → Int64) (t : Bool × Bool) (x1 : Int32) (A20 : Nat → Nat → Int32) (v20_3 : Int32) (v20_4 : Int32) : Int32 := v20_4 + 1
def q102_X10_relsHold_37_45 (n : Nat) (I : Nat → Nat → Int32) (A : Nat → Nat → Int32) (J : Nat → Nat → Int64) (t : Bool × Bool) (x1 : Int32) (A20 : Nat → Nat → Int32) (v20_3 : Int32) (v20_4 : Int32) : Int32 := v20_3 + (-1)
def q111_X10_relsHold_37_45 (n : Nat) (I : Nat → Nat → Int32) (A : Nat → Nat → Int32) (J : Nat → Nat → Int64) (t : Bool × Bool) (x1 : Int32) (A20 : Nat → Nat → Int32) (v20_3 : Int32) (v20_4 : Int32) : Int32 := (A20 44 ((q102_X10_relsHold_37_45 n I A J t x1 A20 v20_3 v20_4)).toNatClampNeg)
def q121_X10_relsHold_37_45 (n : Nat) (I : Nat → Nat → Int32) (A : Nat → Nat → Int32) (J : Nat → Nat → Int64) (t : Bool × Bool) (x1 : Int32) (A20 : Nat → Nat → Int32) (v20_3 : Int32) (v20_4 : Int32) : Int32 := (A20 44 (((q102_X10_relsHold_37_45 n I A J t x1 A20 v20_3 v20_4) - 1)).toNatClampNeg)
def q150_X10_relsHold_37_45 (n : Nat) (I : Nat → Nat → Int32) (A : Nat → Nat → Int32) (J : Nat → Nat → Int64) (t : Bool × Bool) (x1 : Int32) (A20 : Nat → Nat → Int32) (v20_3 : Int32) (v20_4 : Int32) : Int32 := (q102_X10_relsHold_37_45 n I A J t x1 A20 v20_3 v20_4) + (-1)
def qA146_X10_relsHold_37_45 (n : Nat) (I : Nat → Nat → Int32) (A : Nat → Nat → Int32) (J : Nat → Nat → Int64) (t : Bool × Bool) (x1 : Int32) (A20 : Nat → Nat → Int32) (v20_3 : Int32) (v20_4 : Int32) : Nat → Nat → Int32 := cw_u A20 44 (((q102_X10_relsHold_37_45 n I A J t x1 A20 v20_3 v20_4) - 1)).toNatClampNeg (px_X10_reckon n I A20 J t (q38_X10_relsHold_37_45 n I A J t x1 A20 v20_3 v20_4) (q121_X10_relsHold_37_45 n I A J t x1 A20 v20_3 v20_4) (q111_X10_relsHold_37_45 n I A J t x1 A20 v20_3 v20_4))
def qA88_1_X10_relsHold_37_45 (n : Nat) (I : Nat → Nat → Int32) (A : Nat → Nat → Int32) (J : Nat → Nat → Int64) (t : Bool × Bool) (x1 : Int32) (A20 : Nat → Nat → Int32) (v20_3 : Int32) (v20_4 : Int32) : Nat → Nat → Int32 := cw_u A20 44 (v20_3).toNatClampNeg (px_X10_varOf_45 n I A20 J t (q38_X10_relsHold_37_45 n I A J t x1 A20 v20_3 v20_4))
def lp_X10_relsHold_37_45_20 (n : Nat) (I : Nat → Nat → Int32) (A : Nat → Nat → Int32) (J : Nat → Nat → Int64) (t : Bool × Bool) (x1 : Int32) : Nat → (Nat → Nat → Int32) → (Int32) → (Int32) → Int32 × (Nat → Nat → Int32)
  | 0, A20, v20_3, v20_4 => (0, A20)
  | f + 1, A20, v20_3, v20_4 => if (A20 41 (x1).toNatClampNeg) ≤ v20_4 then (1, A20) else if (q38_X10_relsHold_37_45 n I A J t x1 A20 v20_3 v20_4) = 2 then if v20_3 < 16 then lp_X10_relsHold_37_45_20 n I A J t x1 f (qA88_X10_relsHold_37_45 n I A J t x1 A20 v20_3 v20_4) (q89_X10_relsHold_37_45 n I A J t x1 A20 v20_3 v20_4) (q167_X10_relsHold_37_45 n I A J t x1 A20 v20_3 v20_4) else (0, A20) else if (q38_X10_relsHold_37_45 n I A J t x1 A20 v20_3 v20_4) < 20 then if 2 ≤ v20_3 then if 7 ≤ (q38_X10_relsHold_37_45 n I A J t x1 A20 v20_3 v20_4) then if (px_X10_compares n I A20 J t (q38_X10_relsHold_37_45 n I A J t x1 A20 v20_3 v20_4) (q121_X10_relsHold_37_45 n I A J t x1 A20 v20_3 v20_4) (q111_X10_relsHold_37_45 n I A J t x1 A20 v20_3 v20_4)) = 0 then (0, A20) else lp_X10_relsHold_37_45_20 n I A J t x1 f A20 (q150_X10_relsHold_37_45 n I A J t x1 A20 v20_3 v20_4) (q167_X10_relsHold_37_45 n I A J t x1 A20 v20_3 v20_4) else lp_X10_relsHold_37_45_20 n I A J t x1 f (qA146_X10_relsHold_37_45 n I A J t x1 A20 v20_3 v20_4) (q102_X10_relsHold_37_45 n I A J t x1 A20 v20_3 v20_4) (q167_X10_relsHold_37_45 n I A J t x1 A20 v20_3 v20_4) else (0, A20) else if v20_3 < 16 then lp_X10_relsHold_37_45_20 n I A J t x1 f (qA88_1_X10_relsHold_37_45 n I A J t x1 A20 v20_3 v20_4) (q89_X10_relsHold_37_45 n I A J t x1 A20 v20_3 v20_4) (q167_X10_relsHold_37_45 n I A J t x1 A20 v20_3 v20_4) else (0, A20)
def lb_X10_relsHold_37_45_20 (n : Nat) (I : Nat → Nat → Int32) (A : Nat → Nat → Int32) (J : Nat → Nat → Int64) (t : Bool × Bool) (x1 : Int32) : Nat → (Nat → Nat → Int32) → (Int32) → (Int32) → Prop
  | 0, _, _, _ => False
  | f + 1, A20, v20_3, v20_4 => vp_in x1 20 ∧ (¬ (A20 41 (x1).toNatClampNeg) ≤ v20_4 → vp_in v20_4 400 ∧ ((q38_X10_relsHold_37_45 n I A J t x1 A20 v20_3 v20_4) = 2 → (v20_3 < 16 → vp_in v20_4 400 ∧ vp_in v20_3 16 ∧ lb_X10_relsHold_37_45_20 n I A J t x1 f (qA88_X10_relsHold_37_45 n I A J t x1 A20 v20_3 v20_4) (q89_X10_relsHold_37_45 n I A J t x1 A20 v20_3 v20_4) (q167_X10_relsHold_37_45 n I A J t x1 A20 v20_3 v20_4))) ∧ (¬ (q38_X10_relsHold_37_45 n I A J t x1 A20 v20_3 v20_4) = 2 → ((q38_X10_relsHold_37_45 n I A J t x1 A20 v20_3 v20_4) < 20 → (2 ≤ v20_3 → vp_in (q102_X10_relsHold_37_45 n I A J t x1 A20 v20_3 v20_4) 16 ∧ vp_in ((q102_X10_relsHold_37_45 n I A J t x1 A20 v20_3 v20_4) - 1) 16 ∧ (7 ≤ (q38_X10_relsHold_37_45 n I A J t x1 A20 v20_3 v20_4) → (¬ (px_X10_compares n I A20 J t (q38_X10_relsHold_37_45 n I A J t x1 A20 v20_3 v20_4) (q121_X10_relsHold_37_45 n I A J t x1 A20 v20_3 v20_4) (q111_X10_relsHold_37_45 n I A J t x1 A20 v20_3 v20_4)) = 0 → lb_X10_relsHold_37_45_20 n I A J t x1 f A20 (q150_X10_relsHold_37_45 n I A J t x1 A20 v20_3 v20_4) (q167_X10_relsHold_37_45 n I A J t x1 A20 v20_3 v20_4))) ∧ (¬ 7 ≤ (q38_X10_relsHold_37_45 n I A J t x1 A20 v20_3 v20_4) → vp_in ((q102_X10_relsHold_37_45 n I A J t x1 A20 v20_3 v20_4) - 1) 16 ∧ lb_X10_relsHold_37_45_20 n I A J t x1 f (qA146_X10_relsHold_37_45 n I A J t x1 A20 v20_3 v20_4) (q102_X10_relsHold_37_45 n I A J t x1 A20 v20_3 v20_4) (q167_X10_relsHold_37_45 n I A J t x1 A20 v20_3 v20_4)))) ∧ (¬ (q38_X10_relsHold_37_45 n I A J t x1 A20 v20_3 v20_4) < 20 → (v20_3 < 16 → pb_X10_varOf_45 n I A20 J t (q38_X10_relsHold_37_45 n I A J t x1 A20 v20_3 v20_4) ∧ vp_in v20_3 16 ∧ lb_X10_relsHold_37_45_20 n I A J t x1 f (qA88_1_X10_relsHold_37_45 n I A J t x1 A20 v20_3 v20_4) (q89_X10_relsHold_37_45 n I A J t x1 A20 v20_3 v20_4) (q167_X10_relsHold_37_45 n I A J t x1 A20 v20_3 v20_4)))))
def pb_X10_relsHold_37_45 (n : Nat) (I : Nat → Nat → Int32) (A : Nat → Nat → Int32) (J : Nat → Nat → Int64) (t : Bool × Bool) (x1 : Int32) : Prop := (¬ x1 = 0 → vp_in (x1 - 1) 20) ∧ lb_X10_relsHold_37_45_20 n I A J t x1 n A 0 (qs0m3_X10_relsHold_37_45 n I A J t x1)
def px_X10_relsHold_37_45 (n : Nat) (I : Nat → Nat → Int32) (A : Nat → Nat → Int32) (J : Nat → Nat → Int64) (t : Bool × Bool) (x1 : Int32) : Int32 := (lp_X10_relsHold_37_45_20 n I A J t x1 n A 0 (qs0m3_X10_relsHold_37_45 n I A J t x1)).1
def pA_X10_relsHold_37_45 (n : Nat) (I : Nat → Nat → Int32) (A : Nat → Nat → Int32) (J : Nat → Nat → Int64) (t : Bool × Bool) (x1 : Int32) : Nat → Nat → Int32 := (lp_X10_relsHold_37_45_20 n I A J t x1 n A 0 (qs0m3_X10_relsHold_37_45 n I A J t x1)).2
set_option maxRecDepth 100000 in
set_option maxHeartbeats 4000000 in
theorem lt_X10_relsHold_37_45_20 (g : cw_G) (n : Nat) (I : Nat → Nat → Int32) (A : Nat → Nat → Int32) (J : Nat → Nat → Int64) (t : Bool × Bool) (x1 : Int32) : ∀ (f : Nat) (A20 : Nat → Nat → Int32) (v20_3 : Int32) (v20_4 : Int32), lb_X10_relsHold_37_45_20 n I A J t x1 f A20 v20_3 v20_4 → Ev g mX10_relsHold 0 0 20 [some (.ref (cw_z g + 37)), some (.int x1), some (.ref (cw_z g + 45)), some (.int v20_3), some (.int v20_4), none, none, none] [] (hp g I A20 J t) (fun r2 τ2 => r2 = some (.int (lp_X10_relsHold_37_45_20 n I A J t x1 f A20 v20_3 v20_4).1) ∧ τ2 = (hp g I (lp_X10_relsHold_37_45_20 n I A J t x1 f A20 v20_3 v20_4).2 J t)) := by
  intro f
  induction f with
  | zero =>
    intro A20 v20_3 v20_4 hb
    exact hb.elim
  | succ f ih =>
    intro A20 v20_3 v20_4 hb
    rw [lb_X10_relsHold_37_45_20] at hb
    refine ev_gen (fun Q hQ => ?_)
    rw [lp_X10_relsHold_37_45_20] at hQ
    refine ev_iload (pc := 20) dX10_relsHold_20 rfl ?_
    refine ev_aload_n (pc := 22) dX10_relsHold_22 rfl ?_
    refine tv_getr (pc := 23) (d := 41) dX10_relsHold_23 fl_X10_22 (by decide) rfl rfl ?_
    refine ev_iload_n (pc := 26) dX10_relsHold_26 rfl ?_
    refine ev_iald (pc := 27) dX10_relsHold_27 (by decide) rfl hb.1 ?_
    replace hb := hb.2
    have hF_28 := hb
    refine ev_icmp_ge (pc := 28) (tgt := 173) dX10_relsHold_28 (by decide) (fun c_28 => ?_) (fun c_28 => ?_)
    · try simp only [if_pos c_28] at hQ
      refine ev_iconst (pc := 173) (v := 1) dX10_relsHold_173 (by decide) ?_
      exact ev_zret (pc := 174) dX10_relsHold_174 rfl rfl (by decide) (by decide) (hQ _ _ ⟨rfl, rfl⟩)
    · have hb := hF_28 c_28
      try simp only [if_neg c_28] at hQ
      refine ev_aload_n (pc := 31) dX10_relsHold_31 rfl ?_
      refine tv_getr (pc := 32) (d := 42) dX10_relsHold_32 fl_X10_25 (by decide) rfl rfl ?_
      refine ev_iload (pc := 35) dX10_relsHold_35 rfl ?_
      refine ev_iald (pc := 37) dX10_relsHold_37 (by decide) rfl hb.1 ?_
      replace hb := hb.2
      refine ev_is (y := (q38_X10_relsHold_37_45 n I A J t x1 A20 v20_3 v20_4)) rfl ?_
      refine ev_istore_5 (pc := 38) dX10_relsHold_38 (by decide) rfl ?_
      refine ev_iload (pc := 40) dX10_relsHold_40 rfl ?_
      refine ev_iconst (pc := 42) (v := 2) dX10_relsHold_42 (by decide) ?_
      obtain ⟨hT_43, hF_43⟩ := hb
      refine ev_icmp_eq (pc := 43) (tgt := 53) dX10_relsHold_43 (by decide) (fun c_43 => ?_) (fun c_43 => ?_)
      · have hb := hT_43 c_43
        try simp only [if_pos c_43] at hQ
        refine ev_iload_n (pc := 53) dX10_relsHold_53 rfl ?_
        refine ev_bipush (pc := 54) (v := 16) dX10_relsHold_54 (by decide) ?_
        have hT_56 := hb
        refine ev_icmp_lt (pc := 56) (tgt := 61) dX10_relsHold_56 (by decide) (fun c_56 => ?_) (fun c_56 => ?_)
        · have hb := hT_56 c_56
          try simp only [if_pos c_56] at hQ
          refine ev_aload_n (pc := 61) dX10_relsHold_61 rfl ?_
          refine tv_getr (pc := 62) (d := 44) dX10_relsHold_62 fl_X10_31 (by decide) rfl rfl ?_
          refine ev_iload_n (pc := 65) dX10_relsHold_65 rfl ?_
          refine ev_iload (pc := 66) dX10_relsHold_66 rfl ?_
          refine ev_iconst (pc := 68) (v := 2) dX10_relsHold_68 (by decide) ?_
          refine ev_icmp_ne (pc := 69) (tgt := 82) dX10_relsHold_69 (by decide) (fun c_69 => absurd c_43 c_69) (fun c_69 => ?_)
          refine ev_aload_n (pc := 72) dX10_relsHold_72 rfl ?_
          refine tv_getr (pc := 73) (d := 43) dX10_relsHold_73 fl_X10_28 (by decide) rfl rfl ?_
          refine ev_iload (pc := 76) dX10_relsHold_76 rfl ?_
          refine ev_iald (pc := 78) dX10_relsHold_78 (by decide) rfl hb.1 ?_
          replace hb := hb.2
          refine ev_goto (pc := 79) (tgt := 88) dX10_relsHold_79 (by decide) ?_
          refine tw_iast (pc := 88) (A2 := (qA88_X10_relsHold_37_45 n I A J t x1 A20 v20_3 v20_4)) dX10_relsHold_88 (by decide) rfl hb.1 rfl ?_
          replace hb := hb.2
          refine ev_iinc_3 (pc := 89) (v := (q89_X10_relsHold_37_45 n I A J t x1 A20 v20_3 v20_4)) dX10_relsHold_89 (by decide) rfl rfl ?_
          refine ev_goto (pc := 92) (tgt := 167) dX10_relsHold_92 (by decide) ?_
          refine ev_iinc_4 (pc := 167) (v := (q167_X10_relsHold_37_45 n I A J t x1 A20 v20_3 v20_4)) dX10_relsHold_167 (by decide) rfl rfl ?_
          refine ev_goto (pc := 170) (tgt := 20) dX10_relsHold_170 (by decide) ?_
          exact ev_mono (ev_loc (ih (qA88_X10_relsHold_37_45 n I A J t x1 A20 v20_3 v20_4) (q89_X10_relsHold_37_45 n I A J t x1 A20 v20_3 v20_4) (q167_X10_relsHold_37_45 n I A J t x1 A20 v20_3 v20_4) hb) (cw_leS (cw_leS (cw_leS (cw_leS (cw_leS (cw_leN cw_le0))))))) hQ
        · try simp only [if_neg c_56] at hQ
          refine ev_iconst (pc := 59) (v := 0) dX10_relsHold_59 (by decide) ?_
          exact ev_zret (pc := 60) dX10_relsHold_60 rfl rfl (by decide) (by decide) (hQ _ _ ⟨rfl, rfl⟩)
      · have hb := hF_43 c_43
        try simp only [if_neg c_43] at hQ
        refine ev_iload (pc := 46) dX10_relsHold_46 rfl ?_
        refine ev_bipush (pc := 48) (v := 20) dX10_relsHold_48 (by decide) ?_
        obtain ⟨hT_50, hF_50⟩ := hb
        refine ev_icmp_lt (pc := 50) (tgt := 95) dX10_relsHold_50 (by decide) (fun c_50 => ?_) (fun c_50 => ?_)
        · have hb := hT_50 c_50
          try simp only [if_pos c_50] at hQ
          refine ev_iload_n (pc := 95) dX10_relsHold_95 rfl ?_
          refine ev_iconst (pc := 96) (v := 2) dX10_relsHold_96 (by decide) ?_
          have hT_97 := hb
          refine ev_icmp_ge (pc := 97) (tgt := 102) dX10_relsHold_97 (by decide) (fun c_97 => ?_) (fun c_97 => ?_)
          · have hb := hT_97 c_97
            try simp only [if_pos c_97] at hQ
            refine ev_iinc_3 (pc := 102) (v := (q102_X10_relsHold_37_45 n I A J t x1 A20 v20_3 v20_4)) dX10_relsHold_102 (by decide) rfl rfl ?_
            refine ev_aload_n (pc := 105) dX10_relsHold_105 rfl ?_
            refine tv_getr (pc := 106) (d := 44) dX10_relsHold_106 fl_X10_31 (by decide) rfl rfl ?_
            refine ev_iload_n (pc := 109) dX10_relsHold_109 rfl ?_
            refine ev_iald (pc := 110) dX10_relsHold_110 (by decide) rfl hb.1 ?_
            replace hb := hb.2
            refine ev_is (y := (q111_X10_relsHold_37_45 n I A J t x1 A20 v20_3 v20_4)) rfl ?_
            refine ev_istore_6 (pc := 111) dX10_relsHold_111 (by decide) rfl ?_
            refine ev_aload_n (pc := 113) dX10_relsHold_113 rfl ?_
            refine tv_getr (pc := 114) (d := 44) dX10_relsHold_114 fl_X10_31 (by decide) rfl rfl ?_
            refine ev_iload_n (pc := 117) dX10_relsHold_117 rfl ?_
            refine ev_iconst (pc := 118) (v := 1) dX10_relsHold_118 (by decide) ?_
            refine ev_isub (pc := 119) dX10_relsHold_119 ?_
            refine ev_iald (pc := 120) dX10_relsHold_120 (by decide) rfl hb.1 ?_
            replace hb := hb.2
            refine ev_is (y := (q121_X10_relsHold_37_45 n I A J t x1 A20 v20_3 v20_4)) rfl ?_
            refine ev_istore_7 (pc := 121) dX10_relsHold_121 (by decide) rfl ?_
            refine ev_iload (pc := 123) dX10_relsHold_123 rfl ?_
            refine ev_bipush (pc := 125) (v := 7) dX10_relsHold_125 (by decide) ?_
            obtain ⟨hT_127, hF_127⟩ := hb
            refine ev_icmp_ge (pc := 127) (tgt := 150) dX10_relsHold_127 (by decide) (fun c_127 => ?_) (fun c_127 => ?_)
            · have hb := hT_127 c_127
              try simp only [if_pos c_127] at hQ
              refine ev_iinc_3 (pc := 150) (v := (q150_X10_relsHold_37_45 n I A J t x1 A20 v20_3 v20_4)) dX10_relsHold_150 (by decide) rfl rfl ?_
              refine ev_iload (pc := 153) dX10_relsHold_153 rfl ?_
              refine ev_iload (pc := 155) dX10_relsHold_155 rfl ?_
              refine ev_iload (pc := 157) dX10_relsHold_157 rfl ?_
              refine ev_Si (pc := 159) dX10_relsHold_159 lk_X10_53 cd_X10_compares ar_X10_compares ⟨by decide, rfl, rfl⟩ (cv_X10_compares g n I A20 J t (q38_X10_relsHold_37_45 n I A J t x1 A20 v20_3 v20_4) (q121_X10_relsHold_37_45 n I A J t x1 A20 v20_3 v20_4) (q111_X10_relsHold_37_45 n I A J t x1 A20 v20_3 v20_4)) rfl rfl (Nat.le_of_ble_eq_true rfl) ⟨by decide, by decide⟩ ?_
              have hT_162 := hb
              refine ev_if_ne (pc := 162) (tgt := 167) dX10_relsHold_162 (by decide) (fun c_162 => ?_) (fun c_162 => ?_)
              · have hb := hT_162 c_162
                try simp only [if_neg c_162] at hQ
                refine ev_iinc_4 (pc := 167) (v := (q167_X10_relsHold_37_45 n I A J t x1 A20 v20_3 v20_4)) dX10_relsHold_167 (by decide) rfl rfl ?_
                refine ev_goto (pc := 170) (tgt := 20) dX10_relsHold_170 (by decide) ?_
                exact ev_mono (ev_loc (ih A20 (q150_X10_relsHold_37_45 n I A J t x1 A20 v20_3 v20_4) (q167_X10_relsHold_37_45 n I A J t x1 A20 v20_3 v20_4) hb) (cw_leS (cw_leS (cw_leS (cw_leS (cw_leS (cw_leN (cw_leN (cw_leN cw_le0))))))))) hQ
              · try simp only [if_pos c_162] at hQ
                refine ev_iconst (pc := 165) (v := 0) dX10_relsHold_165 (by decide) ?_
                exact ev_zret (pc := 166) dX10_relsHold_166 rfl rfl (by decide) (by decide) (hQ _ _ ⟨rfl, rfl⟩)
            · have hb := hF_127 c_127
              try simp only [if_neg c_127] at hQ
              refine ev_aload_n (pc := 130) dX10_relsHold_130 rfl ?_
              refine tv_getr (pc := 131) (d := 44) dX10_relsHold_131 fl_X10_31 (by decide) rfl rfl ?_
              refine ev_iload_n (pc := 134) dX10_relsHold_134 rfl ?_
              refine ev_iconst (pc := 135) (v := 1) dX10_relsHold_135 (by decide) ?_
              refine ev_isub (pc := 136) dX10_relsHold_136 ?_
              refine ev_iload (pc := 137) dX10_relsHold_137 rfl ?_
              refine ev_iload (pc := 139) dX10_relsHold_139 rfl ?_
              refine ev_iload (pc := 141) dX10_relsHold_141 rfl ?_
              refine ev_Si (pc := 143) dX10_relsHold_143 lk_X10_49 cd_X10_reckon ar_X10_reckon ⟨by decide, rfl, rfl⟩ (cv_X10_reckon g n I A20 J t (q38_X10_relsHold_37_45 n I A J t x1 A20 v20_3 v20_4) (q121_X10_relsHold_37_45 n I A J t x1 A20 v20_3 v20_4) (q111_X10_relsHold_37_45 n I A J t x1 A20 v20_3 v20_4)) rfl rfl (Nat.le_of_ble_eq_true rfl) ⟨by decide, by decide⟩ ?_
              refine tw_iast (pc := 146) (A2 := (qA146_X10_relsHold_37_45 n I A J t x1 A20 v20_3 v20_4)) dX10_relsHold_146 (by decide) rfl hb.1 rfl ?_
              replace hb := hb.2
              refine ev_goto (pc := 147) (tgt := 167) dX10_relsHold_147 (by decide) ?_
              refine ev_iinc_4 (pc := 167) (v := (q167_X10_relsHold_37_45 n I A J t x1 A20 v20_3 v20_4)) dX10_relsHold_167 (by decide) rfl rfl ?_
              refine ev_goto (pc := 170) (tgt := 20) dX10_relsHold_170 (by decide) ?_
              exact ev_mono (ev_loc (ih (qA146_X10_relsHold_37_45 n I A J t x1 A20 v20_3 v20_4) (q102_X10_relsHold_37_45 n I A J t x1 A20 v20_3 v20_4) (q167_X10_relsHold_37_45 n I A J t x1 A20 v20_3 v20_4) hb) (cw_leS (cw_leS (cw_leS (cw_leS (cw_leS (cw_leN (cw_leN (cw_leN cw_le0))))))))) hQ
          · try simp only [if_neg c_97] at hQ
            refine ev_iconst (pc := 100) (v := 0) dX10_relsHold_100 (by decide) ?_
            exact ev_zret (pc := 101) dX10_relsHold_101 rfl rfl (by decide) (by decide) (hQ _ _ ⟨rfl, rfl⟩)
        · have hb := hF_50 c_50
          try simp only [if_neg c_50] at hQ
          refine ev_iload_n (pc := 53) dX10_relsHold_53 rfl ?_
          refine ev_bipush (pc := 54) (v := 16) dX10_relsHold_54 (by decide) ?_
          have hT_56 := hb
          refine ev_icmp_lt (pc := 56) (tgt := 61) dX10_relsHold_56 (by decide) (fun c_56 => ?_) (fun c_56 => ?_)
          · have hb := hT_56 c_56
            try simp only [if_pos c_56] at hQ
            refine ev_aload_n (pc := 61) dX10_relsHold_61 rfl ?_
            refine tv_getr (pc := 62) (d := 44) dX10_relsHold_62 fl_X10_31 (by decide) rfl rfl ?_
            refine ev_iload_n (pc := 65) dX10_relsHold_65 rfl ?_
            refine ev_iload (pc := 66) dX10_relsHold_66 rfl ?_
            refine ev_iconst (pc := 68) (v := 2) dX10_relsHold_68 (by decide) ?_
            refine ev_icmp_ne (pc := 69) (tgt := 82) dX10_relsHold_69 (by decide) (fun c_69 => ?_) (fun c_69 => absurd c_69 c_43)
            refine ev_iload (pc := 82) dX10_relsHold_82 rfl ?_
            refine ev_aload_n (pc := 84) dX10_relsHold_84 rfl ?_
            refine ev_Si (pc := 85) dX10_relsHold_85 lk_X10_45 cd_X10_varOf ar_X10_varOf ⟨by decide, rfl, rfl⟩ (cv_X10_varOf_45 g n I A20 J t (q38_X10_relsHold_37_45 n I A J t x1 A20 v20_3 v20_4) hb.1) rfl rfl (Nat.le_of_ble_eq_true rfl) ⟨by decide, by decide⟩ ?_
            replace hb := hb.2
            refine tw_iast (pc := 88) (A2 := (qA88_1_X10_relsHold_37_45 n I A J t x1 A20 v20_3 v20_4)) dX10_relsHold_88 (by decide) rfl hb.1 rfl ?_
            replace hb := hb.2
            refine ev_iinc_3 (pc := 89) (v := (q89_X10_relsHold_37_45 n I A J t x1 A20 v20_3 v20_4)) dX10_relsHold_89 (by decide) rfl rfl ?_
            refine ev_goto (pc := 92) (tgt := 167) dX10_relsHold_92 (by decide) ?_
            refine ev_iinc_4 (pc := 167) (v := (q167_X10_relsHold_37_45 n I A J t x1 A20 v20_3 v20_4)) dX10_relsHold_167 (by decide) rfl rfl ?_
            refine ev_goto (pc := 170) (tgt := 20) dX10_relsHold_170 (by decide) ?_
            exact ev_mono (ev_loc (ih (qA88_1_X10_relsHold_37_45 n I A J t x1 A20 v20_3 v20_4) (q89_X10_relsHold_37_45 n I A J t x1 A20 v20_3 v20_4) (q167_X10_relsHold_37_45 n I A J t x1 A20 v20_3 v20_4) hb) (cw_leS (cw_leS (cw_leS (cw_leS (cw_leS (cw_leN cw_le0))))))) hQ
          · try simp only [if_neg c_56] at hQ
            refine ev_iconst (pc := 59) (v := 0) dX10_relsHold_59 (by decide) ?_
            exact ev_zret (pc := 60) dX10_relsHold_60 rfl rfl (by decide) (by decide) (hQ _ _ ⟨rfl, rfl⟩)

set_option maxRecDepth 100000 in
set_option maxHeartbeats 4000000 in
theorem cv_X10_relsHold_37_45 (g : cw_G) (n : Nat) (I : Nat → Nat → Int32) (A : Nat → Nat → Int32) (J : Nat → Nat → Int64) (t : Bool × Bool) (x1 : Int32) (hb : pb_X10_relsHold_37_45 n I A J t x1) : Cd g mX10_relsHold [(.ref (cw_z g + 37)), (.int x1), (.ref (cw_z g + 45))] (hp g I A J t) (some (.int (px_X10_relsHold_37_45 n I A J t x1))) (hp g I (pA_X10_relsHold_37_45 n I A J t x1) J t) := by
  unfold pb_X10_relsHold_37_45 at hb
  unfold px_X10_relsHold_37_45 pA_X10_relsHold_37_45
  refine Cd.of rfl (Nat.le_of_ble_eq_true rfl) (ev_gen (fun Q hQ => ?_))
  refine ev_iconst (pc := 0) (v := 0) dX10_relsHold_0 (by decide) ?_
  refine ev_istore_3 (pc := 1) dX10_relsHold_1 (by decide) rfl ?_
  refine ev_iload_n (pc := 2) dX10_relsHold_2 rfl ?_
  obtain ⟨hT_3, hb⟩ := hb
  refine ev_cut (pj := 18) (Lj := [some (.ref (cw_z g + 37)), some (.int x1), some (.ref (cw_z g + 45)), some (.int 0), none, none, none, none]) (stj := [(.int (qs0m3_X10_relsHold_37_45 n I A J t x1))]) (σj := hp g I A J t) ?_ (fun hJ_3 => ?_)
  rotate_left
  · refine ev_if_ne (pc := 3) (tgt := 10) dX10_relsHold_3 (by decide) (fun c_3 => ?_) (fun c_3 => ?_)
    · have hb := hT_3 c_3
      refine ev_aload_n (pc := 10) dX10_relsHold_10 rfl ?_
      refine tv_getr (pc := 11) (d := 41) dX10_relsHold_11 fl_X10_22 (by decide) rfl rfl ?_
      refine ev_iload_n (pc := 14) dX10_relsHold_14 rfl ?_
      refine ev_iconst (pc := 15) (v := 1) dX10_relsHold_15 (by decide) ?_
      refine ev_isub (pc := 16) dX10_relsHold_16 ?_
      refine ev_iald (pc := 17) dX10_relsHold_17 (by decide) rfl hb ?_
      simp only [qs0m3_X10_relsHold_37_45, if_neg c_3] at hJ_3
      exact ev_loc hJ_3 cw_le0
    · refine ev_iconst (pc := 6) (v := 0) dX10_relsHold_6 (by decide) ?_
      refine ev_goto (pc := 7) (tgt := 18) dX10_relsHold_7 (by decide) ?_
      simp only [qs0m3_X10_relsHold_37_45, if_pos c_3] at hJ_3
      exact ev_loc hJ_3 cw_le0
  refine ev_istore_4 (pc := 18) dX10_relsHold_18 (by decide) rfl ?_
  exact ev_mono (ev_loc (lt_X10_relsHold_37_45_20 g n I A J t x1 n A 0 (qs0m3_X10_relsHold_37_45 n I A J t x1) hb) cw_le0) hQ

def q41_X10_firstHolding_37_45 (n : Nat) (I : Nat → Nat → Int32) (A : Nat → Nat → Int32) (J : Nat → Nat → Int64) (t : Bool × Bool) (x1 : Int32) (A2 : Nat → Nat → Int32) (v2_3 : Int32) : Int32 := v2_3 + 1
def lp_X10_firstHolding_37_45_2 (n : Nat) (I : Nat → Nat → Int32) (A : Nat → Nat → Int32) (J : Nat → Nat → Int64) (t : Bool × Bool) (x1 : Int32) : Nat → (Nat → Nat → Int32) → (Int32) → Int32 × (Nat → Nat → Int32)
  | 0, A2, v2_3 => (0, A2)
  | f + 1, A2, v2_3 => if (I 37 8) ≤ v2_3 then ((-1), A2) else if x1 < (A2 39 (v2_3).toNatClampNeg) then lp_X10_firstHolding_37_45_2 n I A J t x1 f A2 (q41_X10_firstHolding_37_45 n I A J t x1 A2 v2_3) else if (A2 40 (v2_3).toNatClampNeg) ≤ x1 then lp_X10_firstHolding_37_45_2 n I A J t x1 f A2 (q41_X10_firstHolding_37_45 n I A J t x1 A2 v2_3) else if (px_X10_relsHold_37_45 n I A2 J t v2_3) = 0 then lp_X10_firstHolding_37_45_2 n I A J t x1 f (pA_X10_relsHold_37_45 n I A2 J t v2_3) (q41_X10_firstHolding_37_45 n I A J t x1 A2 v2_3) else (v2_3, (pA_X10_relsHold_37_45 n I A2 J t v2_3))
def lb_X10_firstHolding_37_45_2 (n : Nat) (I : Nat → Nat → Int32) (A : Nat → Nat → Int32) (J : Nat → Nat → Int64) (t : Bool × Bool) (x1 : Int32) : Nat → (Nat → Nat → Int32) → (Int32) → Prop
  | 0, _, _ => False
  | f + 1, A2, v2_3 => (¬ (I 37 8) ≤ v2_3 → vp_in v2_3 20 ∧ (x1 < (A2 39 (v2_3).toNatClampNeg) → lb_X10_firstHolding_37_45_2 n I A J t x1 f A2 (q41_X10_firstHolding_37_45 n I A J t x1 A2 v2_3)) ∧ (¬ x1 < (A2 39 (v2_3).toNatClampNeg) → vp_in v2_3 20 ∧ ((A2 40 (v2_3).toNatClampNeg) ≤ x1 → lb_X10_firstHolding_37_45_2 n I A J t x1 f A2 (q41_X10_firstHolding_37_45 n I A J t x1 A2 v2_3)) ∧ (¬ (A2 40 (v2_3).toNatClampNeg) ≤ x1 → pb_X10_relsHold_37_45 n I A2 J t v2_3 ∧ ((px_X10_relsHold_37_45 n I A2 J t v2_3) = 0 → lb_X10_firstHolding_37_45_2 n I A J t x1 f (pA_X10_relsHold_37_45 n I A2 J t v2_3) (q41_X10_firstHolding_37_45 n I A J t x1 A2 v2_3)))))
def pb_X10_firstHolding_37_45 (n : Nat) (I : Nat → Nat → Int32) (A : Nat → Nat → Int32) (J : Nat → Nat → Int64) (t : Bool × Bool) (x1 : Int32) : Prop := lb_X10_firstHolding_37_45_2 n I A J t x1 n A 0
def px_X10_firstHolding_37_45 (n : Nat) (I : Nat → Nat → Int32) (A : Nat → Nat → Int32) (J : Nat → Nat → Int64) (t : Bool × Bool) (x1 : Int32) : Int32 := (lp_X10_firstHolding_37_45_2 n I A J t x1 n A 0).1
def pA_X10_firstHolding_37_45 (n : Nat) (I : Nat → Nat → Int32) (A : Nat → Nat → Int32) (J : Nat → Nat → Int64) (t : Bool × Bool) (x1 : Int32) : Nat → Nat → Int32 := (lp_X10_firstHolding_37_45_2 n I A J t x1 n A 0).2
set_option maxRecDepth 100000 in
set_option maxHeartbeats 4000000 in
theorem lt_X10_firstHolding_37_45_2 (g : cw_G) (n : Nat) (I : Nat → Nat → Int32) (A : Nat → Nat → Int32) (J : Nat → Nat → Int64) (t : Bool × Bool) (x1 : Int32) : ∀ (f : Nat) (A2 : Nat → Nat → Int32) (v2_3 : Int32), lb_X10_firstHolding_37_45_2 n I A J t x1 f A2 v2_3 → Ev g mX10_firstHolding 0 0 2 [some (.ref (cw_z g + 37)), some (.int x1), some (.ref (cw_z g + 45)), some (.int v2_3)] [] (hp g I A2 J t) (fun r2 τ2 => r2 = some (.int (lp_X10_firstHolding_37_45_2 n I A J t x1 f A2 v2_3).1) ∧ τ2 = (hp g I (lp_X10_firstHolding_37_45_2 n I A J t x1 f A2 v2_3).2 J t)) := by
  intro f
  induction f with
  | zero =>
    intro A2 v2_3 hb
    exact hb.elim
  | succ f ih =>
    intro A2 v2_3 hb
    rw [lb_X10_firstHolding_37_45_2] at hb
    refine ev_gen (fun Q hQ => ?_)
    rw [lp_X10_firstHolding_37_45_2] at hQ
    refine ev_iload_n (pc := 2) dX10_firstHolding_2 rfl ?_
    refine ev_aload_n (pc := 3) dX10_firstHolding_3 rfl ?_
    refine tv_geti (pc := 4) dX10_firstHolding_4 fl_X10_38 (by decide) rfl rfl ?_
    have hF_7 := hb
    refine ev_icmp_ge (pc := 7) (tgt := 47) dX10_firstHolding_7 (by decide) (fun c_7 => ?_) (fun c_7 => ?_)
    · try simp only [if_pos c_7] at hQ
      refine ev_iconst (pc := 47) (v := (-1)) dX10_firstHolding_47 (by decide) ?_
      exact ev_iret (pc := 48) dX10_firstHolding_48 rfl (by decide) (by decide) (hQ _ _ ⟨rfl, rfl⟩)
    · have hb := hF_7 c_7
      try simp only [if_neg c_7] at hQ
      refine ev_iload_n (pc := 10) dX10_firstHolding_10 rfl ?_
      refine ev_aload_n (pc := 11) dX10_firstHolding_11 rfl ?_
      refine tv_getr (pc := 12) (d := 39) dX10_firstHolding_12 fl_X10_15 (by decide) rfl rfl ?_
      refine ev_iload_n (pc := 15) dX10_firstHolding_15 rfl ?_
      refine ev_iald (pc := 16) dX10_firstHolding_16 (by decide) rfl hb.1 ?_
      replace hb := hb.2
      obtain ⟨hT_17, hF_17⟩ := hb
      refine ev_icmp_lt (pc := 17) (tgt := 41) dX10_firstHolding_17 (by decide) (fun c_17 => ?_) (fun c_17 => ?_)
      · have hb := hT_17 c_17
        try simp only [if_pos c_17] at hQ
        refine ev_iinc_3 (pc := 41) (v := (q41_X10_firstHolding_37_45 n I A J t x1 A2 v2_3)) dX10_firstHolding_41 (by decide) rfl rfl ?_
        refine ev_goto (pc := 44) (tgt := 2) dX10_firstHolding_44 (by decide) ?_
        exact ev_mono (ev_loc (ih A2 (q41_X10_firstHolding_37_45 n I A J t x1 A2 v2_3) hb) cw_le0) hQ
      · have hb := hF_17 c_17
        try simp only [if_neg c_17] at hQ
        refine ev_iload_n (pc := 20) dX10_firstHolding_20 rfl ?_
        refine ev_aload_n (pc := 21) dX10_firstHolding_21 rfl ?_
        refine tv_getr (pc := 22) (d := 40) dX10_firstHolding_22 fl_X10_19 (by decide) rfl rfl ?_
        refine ev_iload_n (pc := 25) dX10_firstHolding_25 rfl ?_
        refine ev_iald (pc := 26) dX10_firstHolding_26 (by decide) rfl hb.1 ?_
        replace hb := hb.2
        obtain ⟨hT_27, hF_27⟩ := hb
        refine ev_icmp_ge (pc := 27) (tgt := 41) dX10_firstHolding_27 (by decide) (fun c_27 => ?_) (fun c_27 => ?_)
        · have hb := hT_27 c_27
          try simp only [if_pos c_27] at hQ
          refine ev_iinc_3 (pc := 41) (v := (q41_X10_firstHolding_37_45 n I A J t x1 A2 v2_3)) dX10_firstHolding_41 (by decide) rfl rfl ?_
          refine ev_goto (pc := 44) (tgt := 2) dX10_firstHolding_44 (by decide) ?_
          exact ev_mono (ev_loc (ih A2 (q41_X10_firstHolding_37_45 n I A J t x1 A2 v2_3) hb) cw_le0) hQ
        · have hb := hF_27 c_27
          try simp only [if_neg c_27] at hQ
          refine ev_aload_n (pc := 30) dX10_firstHolding_30 rfl ?_
          refine ev_iload_n (pc := 31) dX10_firstHolding_31 rfl ?_
          refine ev_aload_n (pc := 32) dX10_firstHolding_32 rfl ?_
          refine ev_Vi (pc := 33) dX10_firstHolding_33 lk_X10_41 cd_X10_relsHold ar_X10_relsHold ⟨by decide, rfl, rfl⟩ (cv_X10_relsHold_37_45 g n I A2 J t v2_3 hb.1) (show 37 < 120 by decide) rfl rfl rfl rfl (Nat.le_of_ble_eq_true rfl) ⟨by decide, by decide⟩ ?_
          replace hb := hb.2
          have hT_36 := hb
          refine ev_if_eq (pc := 36) (tgt := 41) dX10_firstHolding_36 (by decide) (fun c_36 => ?_) (fun c_36 => ?_)
          · have hb := hT_36 c_36
            try simp only [if_pos c_36] at hQ
            refine ev_iinc_3 (pc := 41) (v := (q41_X10_firstHolding_37_45 n I A J t x1 A2 v2_3)) dX10_firstHolding_41 (by decide) rfl rfl ?_
            refine ev_goto (pc := 44) (tgt := 2) dX10_firstHolding_44 (by decide) ?_
            exact ev_mono (ev_loc (ih (pA_X10_relsHold_37_45 n I A2 J t v2_3) (q41_X10_firstHolding_37_45 n I A J t x1 A2 v2_3) hb) cw_le0) hQ
          · try simp only [if_neg c_36] at hQ
            refine ev_iload_n (pc := 39) dX10_firstHolding_39 rfl ?_
            exact ev_iret (pc := 40) dX10_firstHolding_40 rfl (by decide) (by decide) (hQ _ _ ⟨rfl, rfl⟩)

set_option maxRecDepth 100000 in
set_option maxHeartbeats 4000000 in
theorem cv_X10_firstHolding_37_45 (g : cw_G) (n : Nat) (I : Nat → Nat → Int32) (A : Nat → Nat → Int32) (J : Nat → Nat → Int64) (t : Bool × Bool) (x1 : Int32) (hb : pb_X10_firstHolding_37_45 n I A J t x1) : Cd g mX10_firstHolding [(.ref (cw_z g + 37)), (.int x1), (.ref (cw_z g + 45))] (hp g I A J t) (some (.int (px_X10_firstHolding_37_45 n I A J t x1))) (hp g I (pA_X10_firstHolding_37_45 n I A J t x1) J t) := by
  unfold pb_X10_firstHolding_37_45 at hb
  unfold px_X10_firstHolding_37_45 pA_X10_firstHolding_37_45
  refine Cd.of rfl (Nat.le_of_ble_eq_true rfl) (ev_gen (fun Q hQ => ?_))
  refine ev_iconst (pc := 0) (v := 0) dX10_firstHolding_0 (by decide) ?_
  refine ev_istore_3 (pc := 1) dX10_firstHolding_1 (by decide) rfl ?_
  exact ev_mono (ev_loc (lt_X10_firstHolding_37_45_2 g n I A J t x1 n A 0 hb) cw_le0) hQ

def qI2_X10_renew_60 (n : Nat) (I : Nat → Nat → Int32) (A : Nat → Nat → Int32) (J : Nat → Nat → Int64) (t : Bool × Bool) : Nat → Nat → Int32 := cw_u I 60 8 0
def qI7_X10_renew_60 (n : Nat) (I : Nat → Nat → Int32) (A : Nat → Nat → Int32) (J : Nat → Nat → Int64) (t : Bool × Bool) : Nat → Nat → Int32 := cw_u (qI2_X10_renew_60 n I A J t) 60 7 0
def pI_X10_renew_60 (n : Nat) (I : Nat → Nat → Int32) (A : Nat → Nat → Int32) (J : Nat → Nat → Int64) (t : Bool × Bool) : Nat → Nat → Int32 := (qI7_X10_renew_60 n I A J t)
set_option maxRecDepth 100000 in
set_option maxHeartbeats 4000000 in
theorem cv_X10_renew_60 (g : cw_G) (n : Nat) (I : Nat → Nat → Int32) (A : Nat → Nat → Int32) (J : Nat → Nat → Int64) (t : Bool × Bool) : Cd g mX10_renew [(.ref (cw_z g + 60))] (hp g I A J t) none (hp g (pI_X10_renew_60 n I A J t) A J t) := by
  unfold pI_X10_renew_60
  refine Cd.of rfl (Nat.le_of_ble_eq_true rfl) (ev_gen (fun Q hQ => ?_))
  refine ev_aload_n (pc := 0) dX10_renew_0 rfl ?_
  refine ev_iconst (pc := 1) (v := 0) dX10_renew_1 (by decide) ?_
  refine tw_puti (pc := 2) (I2 := (qI2_X10_renew_60 n I A J t)) dX10_renew_2 fp_X10_38 (by decide) rfl rfl rfl ?_
  refine ev_aload_n (pc := 5) dX10_renew_5 rfl ?_
  refine ev_iconst (pc := 6) (v := 0) dX10_renew_6 (by decide) ?_
  refine tw_puti (pc := 7) (I2 := (qI7_X10_renew_60 n I A J t)) dX10_renew_7 fp_X10_34 (by decide) rfl rfl rfl ?_
  exact ev_vret (pc := 10) dX10_renew_10 rfl (by decide) (by decide) (hQ _ _ ⟨rfl, rfl⟩)

def qA19_X10_addStep_60 (n : Nat) (I : Nat → Nat → Int32) (A : Nat → Nat → Int32) (J : Nat → Nat → Int64) (t : Bool × Bool) (x1 : Int32) (x2 : Int32) : Nat → Nat → Int32 := cw_u A 65 ((I 60 7)).toNatClampNeg x1
def qA29_X10_addStep_60 (n : Nat) (I : Nat → Nat → Int32) (A : Nat → Nat → Int32) (J : Nat → Nat → Int64) (t : Bool × Bool) (x1 : Int32) (x2 : Int32) : Nat → Nat → Int32 := cw_u (qA19_X10_addStep_60 n I A J t x1 x2) 66 ((I 60 7)).toNatClampNeg x2
def qI37_X10_addStep_60 (n : Nat) (I : Nat → Nat → Int32) (A : Nat → Nat → Int32) (J : Nat → Nat → Int64) (t : Bool × Bool) (x1 : Int32) (x2 : Int32) : Nat → Nat → Int32 := cw_u I 60 7 ((I 60 7) + 1)
def qIm7_X10_addStep_60 (n : Nat) (I : Nat → Nat → Int32) (A : Nat → Nat → Int32) (J : Nat → Nat → Int64) (t : Bool × Bool) (x1 : Int32) (x2 : Int32) : Nat → Nat → Int32 := if 400 ≤ (I 60 7) then I else (qI37_X10_addStep_60 n I A J t x1 x2)
def qAm7_X10_addStep_60 (n : Nat) (I : Nat → Nat → Int32) (A : Nat → Nat → Int32) (J : Nat → Nat → Int64) (t : Bool × Bool) (x1 : Int32) (x2 : Int32) : Nat → Nat → Int32 := if 400 ≤ (I 60 7) then A else (qA29_X10_addStep_60 n I A J t x1 x2)
def pb_X10_addStep_60 (n : Nat) (I : Nat → Nat → Int32) (A : Nat → Nat → Int32) (J : Nat → Nat → Int64) (t : Bool × Bool) (x1 : Int32) (x2 : Int32) : Prop := (¬ 400 ≤ (I 60 7) → vp_in (I 60 7) 400 ∧ vp_in (I 60 7) 400)
def pI_X10_addStep_60 (n : Nat) (I : Nat → Nat → Int32) (A : Nat → Nat → Int32) (J : Nat → Nat → Int64) (t : Bool × Bool) (x1 : Int32) (x2 : Int32) : Nat → Nat → Int32 := (qIm7_X10_addStep_60 n I A J t x1 x2)
def pA_X10_addStep_60 (n : Nat) (I : Nat → Nat → Int32) (A : Nat → Nat → Int32) (J : Nat → Nat → Int64) (t : Bool × Bool) (x1 : Int32) (x2 : Int32) : Nat → Nat → Int32 := (qAm7_X10_addStep_60 n I A J t x1 x2)
set_option maxRecDepth 100000 in
set_option maxHeartbeats 4000000 in
theorem cv_X10_addStep_60 (g : cw_G) (n : Nat) (I : Nat → Nat → Int32) (A : Nat → Nat → Int32) (J : Nat → Nat → Int64) (t : Bool × Bool) (x1 : Int32) (x2 : Int32) (hb : pb_X10_addStep_60 n I A J t x1 x2) : Cd g mX10_addStep [(.ref (cw_z g + 60)), (.int x1), (.int x2)] (hp g I A J t) none (hp g (pI_X10_addStep_60 n I A J t x1 x2) (pA_X10_addStep_60 n I A J t x1 x2) J t) := by
  unfold pb_X10_addStep_60 at hb
  unfold pI_X10_addStep_60 pA_X10_addStep_60
  refine Cd.of rfl (Nat.le_of_ble_eq_true rfl) (ev_gen (fun Q hQ => ?_))
  refine ev_aload_n (pc := 0) dX10_addStep_0 rfl ?_
  refine tv_geti (pc := 1) dX10_addStep_1 fl_X10_34 (by decide) rfl rfl ?_
  refine ev_sipush (pc := 4) (v := 400) dX10_addStep_4 (by decide) ?_
  have hF_7 := hb
  refine ev_cut (pj := 40) (Lj := [some (.ref (cw_z g + 60)), some (.int x1), some (.int x2)]) (stj := []) (σj := hp g (qIm7_X10_addStep_60 n I A J t x1 x2) (qAm7_X10_addStep_60 n I A J t x1 x2) J t) ?_ (fun hJ_7 => ?_)
  rotate_left
  · refine ev_icmp_ge (pc := 7) (tgt := 40) dX10_addStep_7 (by decide) (fun c_7 => ?_) (fun c_7 => ?_)
    · simp only [qIm7_X10_addStep_60, qAm7_X10_addStep_60, if_pos c_7] at hJ_7
      exact ev_loc hJ_7 cw_le0
    · have hb := hF_7 c_7
      refine ev_aload_n (pc := 10) dX10_addStep_10 rfl ?_
      refine tv_getr (pc := 11) (d := 65) dX10_addStep_11 fl_X10_25 (by decide) rfl rfl ?_
      refine ev_aload_n (pc := 14) dX10_addStep_14 rfl ?_
      refine tv_geti (pc := 15) dX10_addStep_15 fl_X10_34 (by decide) rfl rfl ?_
      refine ev_iload_n (pc := 18) dX10_addStep_18 rfl ?_
      refine tw_iast (pc := 19) (A2 := (qA19_X10_addStep_60 n I A J t x1 x2)) dX10_addStep_19 (by decide) rfl hb.1 rfl ?_
      replace hb := hb.2
      refine ev_aload_n (pc := 20) dX10_addStep_20 rfl ?_
      refine tv_getr (pc := 21) (d := 66) dX10_addStep_21 fl_X10_28 (by decide) rfl rfl ?_
      refine ev_aload_n (pc := 24) dX10_addStep_24 rfl ?_
      refine tv_geti (pc := 25) dX10_addStep_25 fl_X10_34 (by decide) rfl rfl ?_
      refine ev_iload_n (pc := 28) dX10_addStep_28 rfl ?_
      refine tw_iast (pc := 29) (A2 := (qA29_X10_addStep_60 n I A J t x1 x2)) dX10_addStep_29 (by decide) rfl hb rfl ?_
      refine ev_aload_n (pc := 30) dX10_addStep_30 rfl ?_
      refine ev_dup (pc := 31) dX10_addStep_31 rfl ?_
      refine tv_geti (pc := 32) dX10_addStep_32 fl_X10_34 (by decide) rfl rfl ?_
      refine ev_iconst (pc := 35) (v := 1) dX10_addStep_35 (by decide) ?_
      refine ev_iadd (pc := 36) dX10_addStep_36 ?_
      refine tw_puti (pc := 37) (I2 := (qI37_X10_addStep_60 n I A J t x1 x2)) dX10_addStep_37 fp_X10_34 (by decide) rfl rfl rfl ?_
      simp only [qIm7_X10_addStep_60, qAm7_X10_addStep_60, if_neg c_7] at hJ_7
      exact ev_loc hJ_7 cw_le0
  exact ev_vret (pc := 40) dX10_addStep_40 rfl (by decide) (by decide) (hQ _ _ ⟨rfl, rfl⟩)

def qA18_X10_addRule_60 (n : Nat) (I : Nat → Nat → Int32) (A : Nat → Nat → Int32) (J : Nat → Nat → Int64) (t : Bool × Bool) (x1 : Int32) (x2 : Int32) (x3 : Int32) : Nat → Nat → Int32 := cw_u A 61 ((I 60 8)).toNatClampNeg (vp_nar .boolean x1)
def qA28_X10_addRule_60 (n : Nat) (I : Nat → Nat → Int32) (A : Nat → Nat → Int32) (J : Nat → Nat → Int64) (t : Bool × Bool) (x1 : Int32) (x2 : Int32) (x3 : Int32) : Nat → Nat → Int32 := cw_u (qA18_X10_addRule_60 n I A J t x1 x2 x3) 62 ((I 60 8)).toNatClampNeg x2
def qA38_X10_addRule_60 (n : Nat) (I : Nat → Nat → Int32) (A : Nat → Nat → Int32) (J : Nat → Nat → Int64) (t : Bool × Bool) (x1 : Int32) (x2 : Int32) (x3 : Int32) : Nat → Nat → Int32 := cw_u (qA28_X10_addRule_60 n I A J t x1 x2 x3) 63 ((I 60 8)).toNatClampNeg x3
def qA51_X10_addRule_60 (n : Nat) (I : Nat → Nat → Int32) (A : Nat → Nat → Int32) (J : Nat → Nat → Int64) (t : Bool × Bool) (x1 : Int32) (x2 : Int32) (x3 : Int32) : Nat → Nat → Int32 := cw_u (qA38_X10_addRule_60 n I A J t x1 x2 x3) 64 ((I 60 8)).toNatClampNeg (I 60 7)
def qI59_X10_addRule_60 (n : Nat) (I : Nat → Nat → Int32) (A : Nat → Nat → Int32) (J : Nat → Nat → Int64) (t : Bool × Bool) (x1 : Int32) (x2 : Int32) (x3 : Int32) : Nat → Nat → Int32 := cw_u I 60 8 ((I 60 8) + 1)
def qIm6_X10_addRule_60 (n : Nat) (I : Nat → Nat → Int32) (A : Nat → Nat → Int32) (J : Nat → Nat → Int64) (t : Bool × Bool) (x1 : Int32) (x2 : Int32) (x3 : Int32) : Nat → Nat → Int32 := if 20 ≤ (I 60 8) then I else (qI59_X10_addRule_60 n I A J t x1 x2 x3)
def qAm6_X10_addRule_60 (n : Nat) (I : Nat → Nat → Int32) (A : Nat → Nat → Int32) (J : Nat → Nat → Int64) (t : Bool × Bool) (x1 : Int32) (x2 : Int32) (x3 : Int32) : Nat → Nat → Int32 := if 20 ≤ (I 60 8) then A else (qA51_X10_addRule_60 n I A J t x1 x2 x3)
def pb_X10_addRule_60 (n : Nat) (I : Nat → Nat → Int32) (A : Nat → Nat → Int32) (J : Nat → Nat → Int64) (t : Bool × Bool) (x1 : Int32) (x2 : Int32) (x3 : Int32) : Prop := (¬ 20 ≤ (I 60 8) → vp_in (I 60 8) 20 ∧ vp_in (I 60 8) 20 ∧ vp_in (I 60 8) 20 ∧ vp_in (I 60 8) 20)
def pI_X10_addRule_60 (n : Nat) (I : Nat → Nat → Int32) (A : Nat → Nat → Int32) (J : Nat → Nat → Int64) (t : Bool × Bool) (x1 : Int32) (x2 : Int32) (x3 : Int32) : Nat → Nat → Int32 := (qIm6_X10_addRule_60 n I A J t x1 x2 x3)
def pA_X10_addRule_60 (n : Nat) (I : Nat → Nat → Int32) (A : Nat → Nat → Int32) (J : Nat → Nat → Int64) (t : Bool × Bool) (x1 : Int32) (x2 : Int32) (x3 : Int32) : Nat → Nat → Int32 := (qAm6_X10_addRule_60 n I A J t x1 x2 x3)
set_option maxRecDepth 100000 in
set_option maxHeartbeats 4000000 in
theorem cv_X10_addRule_60 (g : cw_G) (n : Nat) (I : Nat → Nat → Int32) (A : Nat → Nat → Int32) (J : Nat → Nat → Int64) (t : Bool × Bool) (x1 : Int32) (x2 : Int32) (x3 : Int32) (hb : pb_X10_addRule_60 n I A J t x1 x2 x3) : Cd g mX10_addRule [(.ref (cw_z g + 60)), (.int x1), (.int x2), (.int x3)] (hp g I A J t) none (hp g (pI_X10_addRule_60 n I A J t x1 x2 x3) (pA_X10_addRule_60 n I A J t x1 x2 x3) J t) := by
  unfold pb_X10_addRule_60 at hb
  unfold pI_X10_addRule_60 pA_X10_addRule_60
  refine Cd.of rfl (Nat.le_of_ble_eq_true rfl) (ev_gen (fun Q hQ => ?_))
  refine ev_aload_n (pc := 0) dX10_addRule_0 rfl ?_
  refine tv_geti (pc := 1) dX10_addRule_1 fl_X10_38 (by decide) rfl rfl ?_
  refine ev_bipush (pc := 4) (v := 20) dX10_addRule_4 (by decide) ?_
  have hF_6 := hb
  refine ev_cut (pj := 62) (Lj := [some (.ref (cw_z g + 60)), some (.int x1), some (.int x2), some (.int x3)]) (stj := []) (σj := hp g (qIm6_X10_addRule_60 n I A J t x1 x2 x3) (qAm6_X10_addRule_60 n I A J t x1 x2 x3) J t) ?_ (fun hJ_6 => ?_)
  rotate_left
  · refine ev_icmp_ge (pc := 6) (tgt := 62) dX10_addRule_6 (by decide) (fun c_6 => ?_) (fun c_6 => ?_)
    · simp only [qIm6_X10_addRule_60, qAm6_X10_addRule_60, if_pos c_6] at hJ_6
      exact ev_loc hJ_6 cw_le0
    · have hb := hF_6 c_6
      refine ev_aload_n (pc := 9) dX10_addRule_9 rfl ?_
      refine tv_getr (pc := 10) (d := 61) dX10_addRule_10 fl_X10_9 (by decide) rfl rfl ?_
      refine ev_aload_n (pc := 13) dX10_addRule_13 rfl ?_
      refine tv_geti (pc := 14) dX10_addRule_14 fl_X10_38 (by decide) rfl rfl ?_
      refine ev_iload_n (pc := 17) dX10_addRule_17 rfl ?_
      refine tw_zast (pc := 18) (A2 := (qA18_X10_addRule_60 n I A J t x1 x2 x3)) dX10_addRule_18 (by decide) rfl hb.1 rfl ?_
      replace hb := hb.2
      refine ev_aload_n (pc := 19) dX10_addRule_19 rfl ?_
      refine tv_getr (pc := 20) (d := 62) dX10_addRule_20 fl_X10_15 (by decide) rfl rfl ?_
      refine ev_aload_n (pc := 23) dX10_addRule_23 rfl ?_
      refine tv_geti (pc := 24) dX10_addRule_24 fl_X10_38 (by decide) rfl rfl ?_
      refine ev_iload_n (pc := 27) dX10_addRule_27 rfl ?_
      refine tw_iast (pc := 28) (A2 := (qA28_X10_addRule_60 n I A J t x1 x2 x3)) dX10_addRule_28 (by decide) rfl hb.1 rfl ?_
      replace hb := hb.2
      refine ev_aload_n (pc := 29) dX10_addRule_29 rfl ?_
      refine tv_getr (pc := 30) (d := 63) dX10_addRule_30 fl_X10_19 (by decide) rfl rfl ?_
      refine ev_aload_n (pc := 33) dX10_addRule_33 rfl ?_
      refine tv_geti (pc := 34) dX10_addRule_34 fl_X10_38 (by decide) rfl rfl ?_
      refine ev_iload_n (pc := 37) dX10_addRule_37 rfl ?_
      refine tw_iast (pc := 38) (A2 := (qA38_X10_addRule_60 n I A J t x1 x2 x3)) dX10_addRule_38 (by decide) rfl hb.1 rfl ?_
      replace hb := hb.2
      refine ev_aload_n (pc := 39) dX10_addRule_39 rfl ?_
      refine tv_getr (pc := 40) (d := 64) dX10_addRule_40 fl_X10_22 (by decide) rfl rfl ?_
      refine ev_aload_n (pc := 43) dX10_addRule_43 rfl ?_
      refine tv_geti (pc := 44) dX10_addRule_44 fl_X10_38 (by decide) rfl rfl ?_
      refine ev_aload_n (pc := 47) dX10_addRule_47 rfl ?_
      refine tv_geti (pc := 48) dX10_addRule_48 fl_X10_34 (by decide) rfl rfl ?_
      refine tw_iast (pc := 51) (A2 := (qA51_X10_addRule_60 n I A J t x1 x2 x3)) dX10_addRule_51 (by decide) rfl hb rfl ?_
      refine ev_aload_n (pc := 52) dX10_addRule_52 rfl ?_
      refine ev_dup (pc := 53) dX10_addRule_53 rfl ?_
      refine tv_geti (pc := 54) dX10_addRule_54 fl_X10_38 (by decide) rfl rfl ?_
      refine ev_iconst (pc := 57) (v := 1) dX10_addRule_57 (by decide) ?_
      refine ev_iadd (pc := 58) dX10_addRule_58 ?_
      refine tw_puti (pc := 59) (I2 := (qI59_X10_addRule_60 n I A J t x1 x2 x3)) dX10_addRule_59 fp_X10_38 (by decide) rfl rfl rfl ?_
      simp only [qIm6_X10_addRule_60, qAm6_X10_addRule_60, if_neg c_6] at hJ_6
      exact ev_loc hJ_6 cw_le0
  exact ev_vret (pc := 62) dX10_addRule_62 rfl (by decide) (by decide) (hQ _ _ ⟨rfl, rfl⟩)

def qs0m18_X10_weYieldBy_60 (n : Nat) (I : Nat → Nat → Int32) (A : Nat → Nat → Int32) (J : Nat → Nat → Int64) (t : Bool × Bool) (x1 : Int32) : Int32 := if (A 61 (x1).toNatClampNeg) = 0 then 1 else 0
def qs0m9_X10_weYieldBy_60 (n : Nat) (I : Nat → Nat → Int32) (A : Nat → Nat → Int32) (J : Nat → Nat → Int64) (t : Bool × Bool) (x1 : Int32) : Int32 := if (I 60 8) ≤ x1 then 1 else (qs0m18_X10_weYieldBy_60 n I A J t x1)
def qs0m1_X10_weYieldBy_60 (n : Nat) (I : Nat → Nat → Int32) (A : Nat → Nat → Int32) (J : Nat → Nat → Int64) (t : Bool × Bool) (x1 : Int32) : Int32 := if x1 < 0 then 1 else (qs0m9_X10_weYieldBy_60 n I A J t x1)
def pb_X10_weYieldBy_60 (n : Nat) (I : Nat → Nat → Int32) (A : Nat → Nat → Int32) (J : Nat → Nat → Int64) (t : Bool × Bool) (x1 : Int32) : Prop := (¬ x1 < 0 → (¬ (I 60 8) ≤ x1 → vp_in x1 20))
def px_X10_weYieldBy_60 (n : Nat) (I : Nat → Nat → Int32) (A : Nat → Nat → Int32) (J : Nat → Nat → Int64) (t : Bool × Bool) (x1 : Int32) : Int32 := (qs0m1_X10_weYieldBy_60 n I A J t x1)
set_option maxRecDepth 100000 in
set_option maxHeartbeats 4000000 in
theorem cv_X10_weYieldBy_60 (g : cw_G) (n : Nat) (I : Nat → Nat → Int32) (A : Nat → Nat → Int32) (J : Nat → Nat → Int64) (t : Bool × Bool) (x1 : Int32) (hb : pb_X10_weYieldBy_60 n I A J t x1) : Cd g mX10_weYieldBy [(.ref (cw_z g + 60)), (.int x1)] (hp g I A J t) (some (.int (px_X10_weYieldBy_60 n I A J t x1))) (hp g I A J t) := by
  unfold pb_X10_weYieldBy_60 at hb
  unfold px_X10_weYieldBy_60
  refine Cd.of rfl (Nat.le_of_ble_eq_true rfl) (ev_gen (fun Q hQ => ?_))
  refine ev_iload_n (pc := 0) dX10_weYieldBy_0 rfl ?_
  have hF_1 := hb
  refine ev_cut (pj := 26) (Lj := [some (.ref (cw_z g + 60)), some (.int x1)]) (stj := [(.int (qs0m1_X10_weYieldBy_60 n I A J t x1))]) (σj := hp g I A J t) ?_ (fun hJ_1 => ?_)
  rotate_left
  · refine ev_if_lt (pc := 1) (tgt := 21) dX10_weYieldBy_1 (by decide) (fun c_1 => ?_) (fun c_1 => ?_)
    · refine ev_iconst (pc := 21) (v := 1) dX10_weYieldBy_21 (by decide) ?_
      refine ev_goto (pc := 22) (tgt := 26) dX10_weYieldBy_22 (by decide) ?_
      simp only [qs0m1_X10_weYieldBy_60, if_pos c_1] at hJ_1
      exact ev_loc hJ_1 cw_le0
    · have hb := hF_1 c_1
      refine ev_iload_n (pc := 4) dX10_weYieldBy_4 rfl ?_
      refine ev_aload_n (pc := 5) dX10_weYieldBy_5 rfl ?_
      refine tv_geti (pc := 6) dX10_weYieldBy_6 fl_X10_38 (by decide) rfl rfl ?_
      have hF_9 := hb
      refine ev_cut (pj := 26) (Lj := [some (.ref (cw_z g + 60)), some (.int x1)]) (stj := [(.int (qs0m9_X10_weYieldBy_60 n I A J t x1))]) (σj := hp g I A J t) ?_ (fun hJ_9 => ?_)
      rotate_left
      · refine ev_icmp_ge (pc := 9) (tgt := 21) dX10_weYieldBy_9 (by decide) (fun c_9 => ?_) (fun c_9 => ?_)
        · refine ev_iconst (pc := 21) (v := 1) dX10_weYieldBy_21 (by decide) ?_
          refine ev_goto (pc := 22) (tgt := 26) dX10_weYieldBy_22 (by decide) ?_
          simp only [qs0m9_X10_weYieldBy_60, if_pos c_9] at hJ_9
          exact ev_loc hJ_9 cw_le0
        · have hb := hF_9 c_9
          refine ev_aload_n (pc := 12) dX10_weYieldBy_12 rfl ?_
          refine tv_getr (pc := 13) (d := 61) dX10_weYieldBy_13 fl_X10_9 (by decide) rfl rfl ?_
          refine ev_iload_n (pc := 16) dX10_weYieldBy_16 rfl ?_
          refine ev_zald (pc := 17) dX10_weYieldBy_17 (by decide) rfl hb ?_
          refine ev_cut (pj := 26) (Lj := [some (.ref (cw_z g + 60)), some (.int x1)]) (stj := [(.int (qs0m18_X10_weYieldBy_60 n I A J t x1))]) (σj := hp g I A J t) ?_ (fun hJ_18 => ?_)
          rotate_left
          · refine ev_if_ne (pc := 18) (tgt := 25) dX10_weYieldBy_18 (by decide) (fun c_18 => ?_) (fun c_18 => ?_)
            · refine ev_iconst (pc := 25) (v := 0) dX10_weYieldBy_25 (by decide) ?_
              simp only [qs0m18_X10_weYieldBy_60, if_neg c_18] at hJ_18
              exact ev_loc hJ_18 cw_le0
            · refine ev_iconst (pc := 21) (v := 1) dX10_weYieldBy_21 (by decide) ?_
              refine ev_goto (pc := 22) (tgt := 26) dX10_weYieldBy_22 (by decide) ?_
              simp only [qs0m18_X10_weYieldBy_60, if_pos c_18] at hJ_18
              exact ev_loc hJ_18 cw_le0
          simp only [qs0m9_X10_weYieldBy_60, if_neg c_9] at hJ_9
          exact ev_loc hJ_9 cw_le0
      simp only [qs0m1_X10_weYieldBy_60, if_neg c_1] at hJ_1
      exact ev_loc hJ_1 cw_le0
  exact ev_zret (pc := 26) dX10_weYieldBy_26 rfl (cw_nz (cw_ite (Or.inr rfl) (cw_ite (Or.inr rfl) (cw_ite (Or.inr rfl) (Or.inl rfl))))) (by decide) (by decide) (hQ _ _ ⟨rfl, rfl⟩)

theorem z1_X10_weYieldBy_60 (n : Nat) (I : Nat → Nat → Int32) (A : Nat → Nat → Int32) (J : Nat → Nat → Int64) (t : Bool × Bool) (x1 : Int32) : px_X10_weYieldBy_60 n I A J t x1 = 0 ∨ px_X10_weYieldBy_60 n I A J t x1 = 1 := (cw_ite (Or.inr rfl) (cw_ite (Or.inr rfl) (cw_ite (Or.inr rfl) (Or.inl rfl))))

def qs0m3_X10_relsHold_60_45 (n : Nat) (I : Nat → Nat → Int32) (A : Nat → Nat → Int32) (J : Nat → Nat → Int64) (t : Bool × Bool) (x1 : Int32) : Int32 := if x1 = 0 then 0 else (A 64 ((x1 - 1)).toNatClampNeg)
def q38_X10_relsHold_60_45 (n : Nat) (I : Nat → Nat → Int32) (A : Nat → Nat → Int32) (J : Nat → Nat → Int64) (t : Bool × Bool) (x1 : Int32) (A20 : Nat → Nat → Int32) (v20_3 : Int32) (v20_4 : Int32) : Int32 := (A20 65 (v20_4).toNatClampNeg)
def qA88_X10_relsHold_60_45 (n : Nat) (I : Nat → Nat → Int32) (A : Nat → Nat → Int32) (J : Nat → Nat → Int64) (t : Bool × Bool) (x1 : Int32) (A20 : Nat → Nat → Int32) (v20_3 : Int32) (v20_4 : Int32) : Nat → Nat → Int32 := cw_u A20 67 (v20_3).toNatClampNeg (A20 66 (v20_4).toNatClampNeg)
def q89_X10_relsHold_60_45 (n : Nat) (I : Nat → Nat → Int32) (A : Nat → Nat → Int32) (J : Nat → Nat → Int64) (t : Bool × Bool) (x1 : Int32) (A20 : Nat → Nat → Int32) (v20_3 : Int32) (v20_4 : Int32) : Int32 := v20_3 + 1
def q167_X10_relsHold_60_45 (n : Nat) (I : Nat → Nat → Int32) (A : Nat → Nat → Int32) (J : Nat → Nat → Int64) (t : Bool × Bool) (x1 : Int32) (A20 : Nat → Nat → Int32) (v20_3 : Int32) (v20_4 : Int32) : Int32 := v20_4 + 1
def q102_X10_relsHold_60_45 (n : Nat) (I : Nat → Nat → Int32) (A : Nat → Nat → Int32) (J : Nat → Nat → Int64) (t : Bool × Bool) (x1 : Int32) (A20 : Nat → Nat → Int32) (v20_3 : Int32) (v20_4 : Int32) : Int32 := v20_3 + (-1)
def q111_X10_relsHold_60_45 (n : Nat) (I : Nat → Nat → Int32) (A : Nat → Nat → Int32) (J : Nat → Nat → Int64) (t : Bool × Bool) (x1 : Int32) (A20 : Nat → Nat → Int32) (v20_3 : Int32) (v20_4 : Int32) : Int32 := (A20 67 ((q102_X10_relsHold_60_45 n I A J t x1 A20 v20_3 v20_4)).toNatClampNeg)
def q121_X10_relsHold_60_45 (n : Nat) (I : Nat → Nat → Int32) (A : Nat → Nat → Int32) (J : Nat → Nat → Int64) (t : Bool × Bool) (x1 : Int32) (A20 : Nat → Nat → Int32) (v20_3 : Int32) (v20_4 : Int32) : Int32 := (A20 67 (((q102_X10_relsHold_60_45 n I A J t x1 A20 v20_3 v20_4) - 1)).toNatClampNeg)
def q150_X10_relsHold_60_45 (n : Nat) (I : Nat → Nat → Int32) (A : Nat → Nat → Int32) (J : Nat → Nat → Int64) (t : Bool × Bool) (x1 : Int32) (A20 : Nat → Nat → Int32) (v20_3 : Int32) (v20_4 : Int32) : Int32 := (q102_X10_relsHold_60_45 n I A J t x1 A20 v20_3 v20_4) + (-1)
def qA146_X10_relsHold_60_45 (n : Nat) (I : Nat → Nat → Int32) (A : Nat → Nat → Int32) (J : Nat → Nat → Int64) (t : Bool × Bool) (x1 : Int32) (A20 : Nat → Nat → Int32) (v20_3 : Int32) (v20_4 : Int32) : Nat → Nat → Int32 := cw_u A20 67 (((q102_X10_relsHold_60_45 n I A J t x1 A20 v20_3 v20_4) - 1)).toNatClampNeg (px_X10_reckon n I A20 J t (q38_X10_relsHold_60_45 n I A J t x1 A20 v20_3 v20_4) (q121_X10_relsHold_60_45 n I A J t x1 A20 v20_3 v20_4) (q111_X10_relsHold_60_45 n I A J t x1 A20 v20_3 v20_4))
def qA88_1_X10_relsHold_60_45 (n : Nat) (I : Nat → Nat → Int32) (A : Nat → Nat → Int32) (J : Nat → Nat → Int64) (t : Bool × Bool) (x1 : Int32) (A20 : Nat → Nat → Int32) (v20_3 : Int32) (v20_4 : Int32) : Nat → Nat → Int32 := cw_u A20 67 (v20_3).toNatClampNeg (px_X10_varOf_45 n I A20 J t (q38_X10_relsHold_60_45 n I A J t x1 A20 v20_3 v20_4))
def lp_X10_relsHold_60_45_20 (n : Nat) (I : Nat → Nat → Int32) (A : Nat → Nat → Int32) (J : Nat → Nat → Int64) (t : Bool × Bool) (x1 : Int32) : Nat → (Nat → Nat → Int32) → (Int32) → (Int32) → Int32 × (Nat → Nat → Int32)
  | 0, A20, v20_3, v20_4 => (0, A20)
  | f + 1, A20, v20_3, v20_4 => if (A20 64 (x1).toNatClampNeg) ≤ v20_4 then (1, A20) else if (q38_X10_relsHold_60_45 n I A J t x1 A20 v20_3 v20_4) = 2 then if v20_3 < 16 then lp_X10_relsHold_60_45_20 n I A J t x1 f (qA88_X10_relsHold_60_45 n I A J t x1 A20 v20_3 v20_4) (q89_X10_relsHold_60_45 n I A J t x1 A20 v20_3 v20_4) (q167_X10_relsHold_60_45 n I A J t x1 A20 v20_3 v20_4) else (0, A20) else if (q38_X10_relsHold_60_45 n I A J t x1 A20 v20_3 v20_4) < 20 then if 2 ≤ v20_3 then if 7 ≤ (q38_X10_relsHold_60_45 n I A J t x1 A20 v20_3 v20_4) then if (px_X10_compares n I A20 J t (q38_X10_relsHold_60_45 n I A J t x1 A20 v20_3 v20_4) (q121_X10_relsHold_60_45 n I A J t x1 A20 v20_3 v20_4) (q111_X10_relsHold_60_45 n I A J t x1 A20 v20_3 v20_4)) = 0 then (0, A20) else lp_X10_relsHold_60_45_20 n I A J t x1 f A20 (q150_X10_relsHold_60_45 n I A J t x1 A20 v20_3 v20_4) (q167_X10_relsHold_60_45 n I A J t x1 A20 v20_3 v20_4) else lp_X10_relsHold_60_45_20 n I A J t x1 f (qA146_X10_relsHold_60_45 n I A J t x1 A20 v20_3 v20_4) (q102_X10_relsHold_60_45 n I A J t x1 A20 v20_3 v20_4) (q167_X10_relsHold_60_45 n I A J t x1 A20 v20_3 v20_4) else (0, A20) else if v20_3 < 16 then lp_X10_relsHold_60_45_20 n I A J t x1 f (qA88_1_X10_relsHold_60_45 n I A J t x1 A20 v20_3 v20_4) (q89_X10_relsHold_60_45 n I A J t x1 A20 v20_3 v20_4) (q167_X10_relsHold_60_45 n I A J t x1 A20 v20_3 v20_4) else (0, A20)
def lb_X10_relsHold_60_45_20 (n : Nat) (I : Nat → Nat → Int32) (A : Nat → Nat → Int32) (J : Nat → Nat → Int64) (t : Bool × Bool) (x1 : Int32) : Nat → (Nat → Nat → Int32) → (Int32) → (Int32) → Prop
  | 0, _, _, _ => False
  | f + 1, A20, v20_3, v20_4 => vp_in x1 20 ∧ (¬ (A20 64 (x1).toNatClampNeg) ≤ v20_4 → vp_in v20_4 400 ∧ ((q38_X10_relsHold_60_45 n I A J t x1 A20 v20_3 v20_4) = 2 → (v20_3 < 16 → vp_in v20_4 400 ∧ vp_in v20_3 16 ∧ lb_X10_relsHold_60_45_20 n I A J t x1 f (qA88_X10_relsHold_60_45 n I A J t x1 A20 v20_3 v20_4) (q89_X10_relsHold_60_45 n I A J t x1 A20 v20_3 v20_4) (q167_X10_relsHold_60_45 n I A J t x1 A20 v20_3 v20_4))) ∧ (¬ (q38_X10_relsHold_60_45 n I A J t x1 A20 v20_3 v20_4) = 2 → ((q38_X10_relsHold_60_45 n I A J t x1 A20 v20_3 v20_4) < 20 → (2 ≤ v20_3 → vp_in (q102_X10_relsHold_60_45 n I A J t x1 A20 v20_3 v20_4) 16 ∧ vp_in ((q102_X10_relsHold_60_45 n I A J t x1 A20 v20_3 v20_4) - 1) 16 ∧ (7 ≤ (q38_X10_relsHold_60_45 n I A J t x1 A20 v20_3 v20_4) → (¬ (px_X10_compares n I A20 J t (q38_X10_relsHold_60_45 n I A J t x1 A20 v20_3 v20_4) (q121_X10_relsHold_60_45 n I A J t x1 A20 v20_3 v20_4) (q111_X10_relsHold_60_45 n I A J t x1 A20 v20_3 v20_4)) = 0 → lb_X10_relsHold_60_45_20 n I A J t x1 f A20 (q150_X10_relsHold_60_45 n I A J t x1 A20 v20_3 v20_4) (q167_X10_relsHold_60_45 n I A J t x1 A20 v20_3 v20_4))) ∧ (¬ 7 ≤ (q38_X10_relsHold_60_45 n I A J t x1 A20 v20_3 v20_4) → vp_in ((q102_X10_relsHold_60_45 n I A J t x1 A20 v20_3 v20_4) - 1) 16 ∧ lb_X10_relsHold_60_45_20 n I A J t x1 f (qA146_X10_relsHold_60_45 n I A J t x1 A20 v20_3 v20_4) (q102_X10_relsHold_60_45 n I A J t x1 A20 v20_3 v20_4) (q167_X10_relsHold_60_45 n I A J t x1 A20 v20_3 v20_4)))) ∧ (¬ (q38_X10_relsHold_60_45 n I A J t x1 A20 v20_3 v20_4) < 20 → (v20_3 < 16 → pb_X10_varOf_45 n I A20 J t (q38_X10_relsHold_60_45 n I A J t x1 A20 v20_3 v20_4) ∧ vp_in v20_3 16 ∧ lb_X10_relsHold_60_45_20 n I A J t x1 f (qA88_1_X10_relsHold_60_45 n I A J t x1 A20 v20_3 v20_4) (q89_X10_relsHold_60_45 n I A J t x1 A20 v20_3 v20_4) (q167_X10_relsHold_60_45 n I A J t x1 A20 v20_3 v20_4)))))
def pb_X10_relsHold_60_45 (n : Nat) (I : Nat → Nat → Int32) (A : Nat → Nat → Int32) (J : Nat → Nat → Int64) (t : Bool × Bool) (x1 : Int32) : Prop := (¬ x1 = 0 → vp_in (x1 - 1) 20) ∧ lb_X10_relsHold_60_45_20 n I A J t x1 n A 0 (qs0m3_X10_relsHold_60_45 n I A J t x1)
def px_X10_relsHold_60_45 (n : Nat) (I : Nat → Nat → Int32) (A : Nat → Nat → Int32) (J : Nat → Nat → Int64) (t : Bool × Bool) (x1 : Int32) : Int32 := (lp_X10_relsHold_60_45_20 n I A J t x1 n A 0 (qs0m3_X10_relsHold_60_45 n I A J t x1)).1
def pA_X10_relsHold_60_45 (n : Nat) (I : Nat → Nat → Int32) (A : Nat → Nat → Int32) (J : Nat → Nat → Int64) (t : Bool × Bool) (x1 : Int32) : Nat → Nat → Int32 := (lp_X10_relsHold_60_45_20 n I A J t x1 n A 0 (qs0m3_X10_relsHold_60_45 n I A J t x1)).2
set_option maxRecDepth 100000 in
set_option maxHeartbeats 4000000 in
theorem lt_X10_relsHold_60_45_20 (g : cw_G) (n : Nat) (I : Nat → Nat → Int32) (A : Nat → Nat → Int32) (J : Nat → Nat → Int64) (t : Bool × Bool) (x1 : Int32) : ∀ (f : Nat) (A20 : Nat → Nat → Int32) (v20_3 : Int32) (v20_4 : Int32), lb_X10_relsHold_60_45_20 n I A J t x1 f A20 v20_3 v20_4 → Ev g mX10_relsHold 0 0 20 [some (.ref (cw_z g + 60)), some (.int x1), some (.ref (cw_z g + 45)), some (.int v20_3), some (.int v20_4), none, none, none] [] (hp g I A20 J t) (fun r2 τ2 => r2 = some (.int (lp_X10_relsHold_60_45_20 n I A J t x1 f A20 v20_3 v20_4).1) ∧ τ2 = (hp g I (lp_X10_relsHold_60_45_20 n I A J t x1 f A20 v20_3 v20_4).2 J t)) := by
  intro f
  induction f with
  | zero =>
    intro A20 v20_3 v20_4 hb
    exact hb.elim
  | succ f ih =>
    intro A20 v20_3 v20_4 hb
    rw [lb_X10_relsHold_60_45_20] at hb
    refine ev_gen (fun Q hQ => ?_)
    rw [lp_X10_relsHold_60_45_20] at hQ
    refine ev_iload (pc := 20) dX10_relsHold_20 rfl ?_
    refine ev_aload_n (pc := 22) dX10_relsHold_22 rfl ?_
    refine tv_getr (pc := 23) (d := 64) dX10_relsHold_23 fl_X10_22 (by decide) rfl rfl ?_
    refine ev_iload_n (pc := 26) dX10_relsHold_26 rfl ?_
    refine ev_iald (pc := 27) dX10_relsHold_27 (by decide) rfl hb.1 ?_
    replace hb := hb.2
    have hF_28 := hb
    refine ev_icmp_ge (pc := 28) (tgt := 173) dX10_relsHold_28 (by decide) (fun c_28 => ?_) (fun c_28 => ?_)
    · try simp only [if_pos c_28] at hQ
      refine ev_iconst (pc := 173) (v := 1) dX10_relsHold_173 (by decide) ?_
      exact ev_zret (pc := 174) dX10_relsHold_174 rfl rfl (by decide) (by decide) (hQ _ _ ⟨rfl, rfl⟩)
    · have hb := hF_28 c_28
      try simp only [if_neg c_28] at hQ
      refine ev_aload_n (pc := 31) dX10_relsHold_31 rfl ?_
      refine tv_getr (pc := 32) (d := 65) dX10_relsHold_32 fl_X10_25 (by decide) rfl rfl ?_
      refine ev_iload (pc := 35) dX10_relsHold_35 rfl ?_
      refine ev_iald (pc := 37) dX10_relsHold_37 (by decide) rfl hb.1 ?_
      replace hb := hb.2
      refine ev_is (y := (q38_X10_relsHold_60_45 n I A J t x1 A20 v20_3 v20_4)) rfl ?_
      refine ev_istore_5 (pc := 38) dX10_relsHold_38 (by decide) rfl ?_
      refine ev_iload (pc := 40) dX10_relsHold_40 rfl ?_
      refine ev_iconst (pc := 42) (v := 2) dX10_relsHold_42 (by decide) ?_
      obtain ⟨hT_43, hF_43⟩ := hb
      refine ev_icmp_eq (pc := 43) (tgt := 53) dX10_relsHold_43 (by decide) (fun c_43 => ?_) (fun c_43 => ?_)
      · have hb := hT_43 c_43
        try simp only [if_pos c_43] at hQ
        refine ev_iload_n (pc := 53) dX10_relsHold_53 rfl ?_
        refine ev_bipush (pc := 54) (v := 16) dX10_relsHold_54 (by decide) ?_
        have hT_56 := hb
        refine ev_icmp_lt (pc := 56) (tgt := 61) dX10_relsHold_56 (by decide) (fun c_56 => ?_) (fun c_56 => ?_)
        · have hb := hT_56 c_56
          try simp only [if_pos c_56] at hQ
          refine ev_aload_n (pc := 61) dX10_relsHold_61 rfl ?_
          refine tv_getr (pc := 62) (d := 67) dX10_relsHold_62 fl_X10_31 (by decide) rfl rfl ?_
          refine ev_iload_n (pc := 65) dX10_relsHold_65 rfl ?_
          refine ev_iload (pc := 66) dX10_relsHold_66 rfl ?_
          refine ev_iconst (pc := 68) (v := 2) dX10_relsHold_68 (by decide) ?_
          refine ev_icmp_ne (pc := 69) (tgt := 82) dX10_relsHold_69 (by decide) (fun c_69 => absurd c_43 c_69) (fun c_69 => ?_)
          refine ev_aload_n (pc := 72) dX10_relsHold_72 rfl ?_
          refine tv_getr (pc := 73) (d := 66) dX10_relsHold_73 fl_X10_28 (by decide) rfl rfl ?_
          refine ev_iload (pc := 76) dX10_relsHold_76 rfl ?_
          refine ev_iald (pc := 78) dX10_relsHold_78 (by decide) rfl hb.1 ?_
          replace hb := hb.2
          refine ev_goto (pc := 79) (tgt := 88) dX10_relsHold_79 (by decide) ?_
          refine tw_iast (pc := 88) (A2 := (qA88_X10_relsHold_60_45 n I A J t x1 A20 v20_3 v20_4)) dX10_relsHold_88 (by decide) rfl hb.1 rfl ?_
          replace hb := hb.2
          refine ev_iinc_3 (pc := 89) (v := (q89_X10_relsHold_60_45 n I A J t x1 A20 v20_3 v20_4)) dX10_relsHold_89 (by decide) rfl rfl ?_
          refine ev_goto (pc := 92) (tgt := 167) dX10_relsHold_92 (by decide) ?_
          refine ev_iinc_4 (pc := 167) (v := (q167_X10_relsHold_60_45 n I A J t x1 A20 v20_3 v20_4)) dX10_relsHold_167 (by decide) rfl rfl ?_
          refine ev_goto (pc := 170) (tgt := 20) dX10_relsHold_170 (by decide) ?_
          exact ev_mono (ev_loc (ih (qA88_X10_relsHold_60_45 n I A J t x1 A20 v20_3 v20_4) (q89_X10_relsHold_60_45 n I A J t x1 A20 v20_3 v20_4) (q167_X10_relsHold_60_45 n I A J t x1 A20 v20_3 v20_4) hb) (cw_leS (cw_leS (cw_leS (cw_leS (cw_leS (cw_leN cw_le0))))))) hQ
        · try simp only [if_neg c_56] at hQ
          refine ev_iconst (pc := 59) (v := 0) dX10_relsHold_59 (by decide) ?_
          exact ev_zret (pc := 60) dX10_relsHold_60 rfl rfl (by decide) (by decide) (hQ _ _ ⟨rfl, rfl⟩)
      · have hb := hF_43 c_43
        try simp only [if_neg c_43] at hQ
        refine ev_iload (pc := 46) dX10_relsHold_46 rfl ?_
        refine ev_bipush (pc := 48) (v := 20) dX10_relsHold_48 (by decide) ?_
        obtain ⟨hT_50, hF_50⟩ := hb
        refine ev_icmp_lt (pc := 50) (tgt := 95) dX10_relsHold_50 (by decide) (fun c_50 => ?_) (fun c_50 => ?_)
        · have hb := hT_50 c_50
          try simp only [if_pos c_50] at hQ
          refine ev_iload_n (pc := 95) dX10_relsHold_95 rfl ?_
          refine ev_iconst (pc := 96) (v := 2) dX10_relsHold_96 (by decide) ?_
          have hT_97 := hb
          refine ev_icmp_ge (pc := 97) (tgt := 102) dX10_relsHold_97 (by decide) (fun c_97 => ?_) (fun c_97 => ?_)
          · have hb := hT_97 c_97
            try simp only [if_pos c_97] at hQ
            refine ev_iinc_3 (pc := 102) (v := (q102_X10_relsHold_60_45 n I A J t x1 A20 v20_3 v20_4)) dX10_relsHold_102 (by decide) rfl rfl ?_
            refine ev_aload_n (pc := 105) dX10_relsHold_105 rfl ?_
            refine tv_getr (pc := 106) (d := 67) dX10_relsHold_106 fl_X10_31 (by decide) rfl rfl ?_
            refine ev_iload_n (pc := 109) dX10_relsHold_109 rfl ?_
            refine ev_iald (pc := 110) dX10_relsHold_110 (by decide) rfl hb.1 ?_
            replace hb := hb.2
            refine ev_is (y := (q111_X10_relsHold_60_45 n I A J t x1 A20 v20_3 v20_4)) rfl ?_
            refine ev_istore_6 (pc := 111) dX10_relsHold_111 (by decide) rfl ?_
            refine ev_aload_n (pc := 113) dX10_relsHold_113 rfl ?_
            refine tv_getr (pc := 114) (d := 67) dX10_relsHold_114 fl_X10_31 (by decide) rfl rfl ?_
            refine ev_iload_n (pc := 117) dX10_relsHold_117 rfl ?_
            refine ev_iconst (pc := 118) (v := 1) dX10_relsHold_118 (by decide) ?_
            refine ev_isub (pc := 119) dX10_relsHold_119 ?_
            refine ev_iald (pc := 120) dX10_relsHold_120 (by decide) rfl hb.1 ?_
            replace hb := hb.2
            refine ev_is (y := (q121_X10_relsHold_60_45 n I A J t x1 A20 v20_3 v20_4)) rfl ?_
            refine ev_istore_7 (pc := 121) dX10_relsHold_121 (by decide) rfl ?_
            refine ev_iload (pc := 123) dX10_relsHold_123 rfl ?_
            refine ev_bipush (pc := 125) (v := 7) dX10_relsHold_125 (by decide) ?_
            obtain ⟨hT_127, hF_127⟩ := hb
            refine ev_icmp_ge (pc := 127) (tgt := 150) dX10_relsHold_127 (by decide) (fun c_127 => ?_) (fun c_127 => ?_)
            · have hb := hT_127 c_127
              try simp only [if_pos c_127] at hQ
              refine ev_iinc_3 (pc := 150) (v := (q150_X10_relsHold_60_45 n I A J t x1 A20 v20_3 v20_4)) dX10_relsHold_150 (by decide) rfl rfl ?_
              refine ev_iload (pc := 153) dX10_relsHold_153 rfl ?_
              refine ev_iload (pc := 155) dX10_relsHold_155 rfl ?_
              refine ev_iload (pc := 157) dX10_relsHold_157 rfl ?_
              refine ev_Si (pc := 159) dX10_relsHold_159 lk_X10_53 cd_X10_compares ar_X10_compares ⟨by decide, rfl, rfl⟩ (cv_X10_compares g n I A20 J t (q38_X10_relsHold_60_45 n I A J t x1 A20 v20_3 v20_4) (q121_X10_relsHold_60_45 n I A J t x1 A20 v20_3 v20_4) (q111_X10_relsHold_60_45 n I A J t x1 A20 v20_3 v20_4)) rfl rfl (Nat.le_of_ble_eq_true rfl) ⟨by decide, by decide⟩ ?_
              have hT_162 := hb
              refine ev_if_ne (pc := 162) (tgt := 167) dX10_relsHold_162 (by decide) (fun c_162 => ?_) (fun c_162 => ?_)
              · have hb := hT_162 c_162
                try simp only [if_neg c_162] at hQ
                refine ev_iinc_4 (pc := 167) (v := (q167_X10_relsHold_60_45 n I A J t x1 A20 v20_3 v20_4)) dX10_relsHold_167 (by decide) rfl rfl ?_
                refine ev_goto (pc := 170) (tgt := 20) dX10_relsHold_170 (by decide) ?_
                exact ev_mono (ev_loc (ih A20 (q150_X10_relsHold_60_45 n I A J t x1 A20 v20_3 v20_4) (q167_X10_relsHold_60_45 n I A J t x1 A20 v20_3 v20_4) hb) (cw_leS (cw_leS (cw_leS (cw_leS (cw_leS (cw_leN (cw_leN (cw_leN cw_le0))))))))) hQ
              · try simp only [if_pos c_162] at hQ
                refine ev_iconst (pc := 165) (v := 0) dX10_relsHold_165 (by decide) ?_
                exact ev_zret (pc := 166) dX10_relsHold_166 rfl rfl (by decide) (by decide) (hQ _ _ ⟨rfl, rfl⟩)
            · have hb := hF_127 c_127
              try simp only [if_neg c_127] at hQ
              refine ev_aload_n (pc := 130) dX10_relsHold_130 rfl ?_
              refine tv_getr (pc := 131) (d := 67) dX10_relsHold_131 fl_X10_31 (by decide) rfl rfl ?_
              refine ev_iload_n (pc := 134) dX10_relsHold_134 rfl ?_
              refine ev_iconst (pc := 135) (v := 1) dX10_relsHold_135 (by decide) ?_
              refine ev_isub (pc := 136) dX10_relsHold_136 ?_
              refine ev_iload (pc := 137) dX10_relsHold_137 rfl ?_
              refine ev_iload (pc := 139) dX10_relsHold_139 rfl ?_
              refine ev_iload (pc := 141) dX10_relsHold_141 rfl ?_
              refine ev_Si (pc := 143) dX10_relsHold_143 lk_X10_49 cd_X10_reckon ar_X10_reckon ⟨by decide, rfl, rfl⟩ (cv_X10_reckon g n I A20 J t (q38_X10_relsHold_60_45 n I A J t x1 A20 v20_3 v20_4) (q121_X10_relsHold_60_45 n I A J t x1 A20 v20_3 v20_4) (q111_X10_relsHold_60_45 n I A J t x1 A20 v20_3 v20_4)) rfl rfl (Nat.le_of_ble_eq_true rfl) ⟨by decide, by decide⟩ ?_
              refine tw_iast (pc := 146) (A2 := (qA146_X10_relsHold_60_45 n I A J t x1 A20 v20_3 v20_4)) dX10_relsHold_146 (by decide) rfl hb.1 rfl ?_
              replace hb := hb.2
              refine ev_goto (pc := 147) (tgt := 167) dX10_relsHold_147 (by decide) ?_
              refine ev_iinc_4 (pc := 167) (v := (q167_X10_relsHold_60_45 n I A J t x1 A20 v20_3 v20_4)) dX10_relsHold_167 (by decide) rfl rfl ?_
              refine ev_goto (pc := 170) (tgt := 20) dX10_relsHold_170 (by decide) ?_
              exact ev_mono (ev_loc (ih (qA146_X10_relsHold_60_45 n I A J t x1 A20 v20_3 v20_4) (q102_X10_relsHold_60_45 n I A J t x1 A20 v20_3 v20_4) (q167_X10_relsHold_60_45 n I A J t x1 A20 v20_3 v20_4) hb) (cw_leS (cw_leS (cw_leS (cw_leS (cw_leS (cw_leN (cw_leN (cw_leN cw_le0))))))))) hQ
          · try simp only [if_neg c_97] at hQ
            refine ev_iconst (pc := 100) (v := 0) dX10_relsHold_100 (by decide) ?_
            exact ev_zret (pc := 101) dX10_relsHold_101 rfl rfl (by decide) (by decide) (hQ _ _ ⟨rfl, rfl⟩)
        · have hb := hF_50 c_50
          try simp only [if_neg c_50] at hQ
          refine ev_iload_n (pc := 53) dX10_relsHold_53 rfl ?_
          refine ev_bipush (pc := 54) (v := 16) dX10_relsHold_54 (by decide) ?_
          have hT_56 := hb
          refine ev_icmp_lt (pc := 56) (tgt := 61) dX10_relsHold_56 (by decide) (fun c_56 => ?_) (fun c_56 => ?_)
          · have hb := hT_56 c_56
            try simp only [if_pos c_56] at hQ
            refine ev_aload_n (pc := 61) dX10_relsHold_61 rfl ?_
            refine tv_getr (pc := 62) (d := 67) dX10_relsHold_62 fl_X10_31 (by decide) rfl rfl ?_
            refine ev_iload_n (pc := 65) dX10_relsHold_65 rfl ?_
            refine ev_iload (pc := 66) dX10_relsHold_66 rfl ?_
            refine ev_iconst (pc := 68) (v := 2) dX10_relsHold_68 (by decide) ?_
            refine ev_icmp_ne (pc := 69) (tgt := 82) dX10_relsHold_69 (by decide) (fun c_69 => ?_) (fun c_69 => absurd c_69 c_43)
            refine ev_iload (pc := 82) dX10_relsHold_82 rfl ?_
            refine ev_aload_n (pc := 84) dX10_relsHold_84 rfl ?_
            refine ev_Si (pc := 85) dX10_relsHold_85 lk_X10_45 cd_X10_varOf ar_X10_varOf ⟨by decide, rfl, rfl⟩ (cv_X10_varOf_45 g n I A20 J t (q38_X10_relsHold_60_45 n I A J t x1 A20 v20_3 v20_4) hb.1) rfl rfl (Nat.le_of_ble_eq_true rfl) ⟨by decide, by decide⟩ ?_
            replace hb := hb.2
            refine tw_iast (pc := 88) (A2 := (qA88_1_X10_relsHold_60_45 n I A J t x1 A20 v20_3 v20_4)) dX10_relsHold_88 (by decide) rfl hb.1 rfl ?_
            replace hb := hb.2
            refine ev_iinc_3 (pc := 89) (v := (q89_X10_relsHold_60_45 n I A J t x1 A20 v20_3 v20_4)) dX10_relsHold_89 (by decide) rfl rfl ?_
            refine ev_goto (pc := 92) (tgt := 167) dX10_relsHold_92 (by decide) ?_
            refine ev_iinc_4 (pc := 167) (v := (q167_X10_relsHold_60_45 n I A J t x1 A20 v20_3 v20_4)) dX10_relsHold_167 (by decide) rfl rfl ?_
            refine ev_goto (pc := 170) (tgt := 20) dX10_relsHold_170 (by decide) ?_
            exact ev_mono (ev_loc (ih (qA88_1_X10_relsHold_60_45 n I A J t x1 A20 v20_3 v20_4) (q89_X10_relsHold_60_45 n I A J t x1 A20 v20_3 v20_4) (q167_X10_relsHold_60_45 n I A J t x1 A20 v20_3 v20_4) hb) (cw_leS (cw_leS (cw_leS (cw_leS (cw_leS (cw_leN cw_le0))))))) hQ
          · try simp only [if_neg c_56] at hQ
            refine ev_iconst (pc := 59) (v := 0) dX10_relsHold_59 (by decide) ?_
            exact ev_zret (pc := 60) dX10_relsHold_60 rfl rfl (by decide) (by decide) (hQ _ _ ⟨rfl, rfl⟩)

set_option maxRecDepth 100000 in
set_option maxHeartbeats 4000000 in
theorem cv_X10_relsHold_60_45 (g : cw_G) (n : Nat) (I : Nat → Nat → Int32) (A : Nat → Nat → Int32) (J : Nat → Nat → Int64) (t : Bool × Bool) (x1 : Int32) (hb : pb_X10_relsHold_60_45 n I A J t x1) : Cd g mX10_relsHold [(.ref (cw_z g + 60)), (.int x1), (.ref (cw_z g + 45))] (hp g I A J t) (some (.int (px_X10_relsHold_60_45 n I A J t x1))) (hp g I (pA_X10_relsHold_60_45 n I A J t x1) J t) := by
  unfold pb_X10_relsHold_60_45 at hb
  unfold px_X10_relsHold_60_45 pA_X10_relsHold_60_45
  refine Cd.of rfl (Nat.le_of_ble_eq_true rfl) (ev_gen (fun Q hQ => ?_))
  refine ev_iconst (pc := 0) (v := 0) dX10_relsHold_0 (by decide) ?_
  refine ev_istore_3 (pc := 1) dX10_relsHold_1 (by decide) rfl ?_
  refine ev_iload_n (pc := 2) dX10_relsHold_2 rfl ?_
  obtain ⟨hT_3, hb⟩ := hb
  refine ev_cut (pj := 18) (Lj := [some (.ref (cw_z g + 60)), some (.int x1), some (.ref (cw_z g + 45)), some (.int 0), none, none, none, none]) (stj := [(.int (qs0m3_X10_relsHold_60_45 n I A J t x1))]) (σj := hp g I A J t) ?_ (fun hJ_3 => ?_)
  rotate_left
  · refine ev_if_ne (pc := 3) (tgt := 10) dX10_relsHold_3 (by decide) (fun c_3 => ?_) (fun c_3 => ?_)
    · have hb := hT_3 c_3
      refine ev_aload_n (pc := 10) dX10_relsHold_10 rfl ?_
      refine tv_getr (pc := 11) (d := 64) dX10_relsHold_11 fl_X10_22 (by decide) rfl rfl ?_
      refine ev_iload_n (pc := 14) dX10_relsHold_14 rfl ?_
      refine ev_iconst (pc := 15) (v := 1) dX10_relsHold_15 (by decide) ?_
      refine ev_isub (pc := 16) dX10_relsHold_16 ?_
      refine ev_iald (pc := 17) dX10_relsHold_17 (by decide) rfl hb ?_
      simp only [qs0m3_X10_relsHold_60_45, if_neg c_3] at hJ_3
      exact ev_loc hJ_3 cw_le0
    · refine ev_iconst (pc := 6) (v := 0) dX10_relsHold_6 (by decide) ?_
      refine ev_goto (pc := 7) (tgt := 18) dX10_relsHold_7 (by decide) ?_
      simp only [qs0m3_X10_relsHold_60_45, if_pos c_3] at hJ_3
      exact ev_loc hJ_3 cw_le0
  refine ev_istore_4 (pc := 18) dX10_relsHold_18 (by decide) rfl ?_
  exact ev_mono (ev_loc (lt_X10_relsHold_60_45_20 g n I A J t x1 n A 0 (qs0m3_X10_relsHold_60_45 n I A J t x1) hb) cw_le0) hQ

def q41_X10_firstHolding_60_45 (n : Nat) (I : Nat → Nat → Int32) (A : Nat → Nat → Int32) (J : Nat → Nat → Int64) (t : Bool × Bool) (x1 : Int32) (A2 : Nat → Nat → Int32) (v2_3 : Int32) : Int32 := v2_3 + 1
def lp_X10_firstHolding_60_45_2 (n : Nat) (I : Nat → Nat → Int32) (A : Nat → Nat → Int32) (J : Nat → Nat → Int64) (t : Bool × Bool) (x1 : Int32) : Nat → (Nat → Nat → Int32) → (Int32) → Int32 × (Nat → Nat → Int32)
  | 0, A2, v2_3 => (0, A2)
  | f + 1, A2, v2_3 => if (I 60 8) ≤ v2_3 then ((-1), A2) else if x1 < (A2 62 (v2_3).toNatClampNeg) then lp_X10_firstHolding_60_45_2 n I A J t x1 f A2 (q41_X10_firstHolding_60_45 n I A J t x1 A2 v2_3) else if (A2 63 (v2_3).toNatClampNeg) ≤ x1 then lp_X10_firstHolding_60_45_2 n I A J t x1 f A2 (q41_X10_firstHolding_60_45 n I A J t x1 A2 v2_3) else if (px_X10_relsHold_60_45 n I A2 J t v2_3) = 0 then lp_X10_firstHolding_60_45_2 n I A J t x1 f (pA_X10_relsHold_60_45 n I A2 J t v2_3) (q41_X10_firstHolding_60_45 n I A J t x1 A2 v2_3) else (v2_3, (pA_X10_relsHold_60_45 n I A2 J t v2_3))
def lb_X10_firstHolding_60_45_2 (n : Nat) (I : Nat → Nat → Int32) (A : Nat → Nat → Int32) (J : Nat → Nat → Int64) (t : Bool × Bool) (x1 : Int32) : Nat → (Nat → Nat → Int32) → (Int32) → Prop
  | 0, _, _ => False
  | f + 1, A2, v2_3 => (¬ (I 60 8) ≤ v2_3 → vp_in v2_3 20 ∧ (x1 < (A2 62 (v2_3).toNatClampNeg) → lb_X10_firstHolding_60_45_2 n I A J t x1 f A2 (q41_X10_firstHolding_60_45 n I A J t x1 A2 v2_3)) ∧ (¬ x1 < (A2 62 (v2_3).toNatClampNeg) → vp_in v2_3 20 ∧ ((A2 63 (v2_3).toNatClampNeg) ≤ x1 → lb_X10_firstHolding_60_45_2 n I A J t x1 f A2 (q41_X10_firstHolding_60_45 n I A J t x1 A2 v2_3)) ∧ (¬ (A2 63 (v2_3).toNatClampNeg) ≤ x1 → pb_X10_relsHold_60_45 n I A2 J t v2_3 ∧ ((px_X10_relsHold_60_45 n I A2 J t v2_3) = 0 → lb_X10_firstHolding_60_45_2 n I A J t x1 f (pA_X10_relsHold_60_45 n I A2 J t v2_3) (q41_X10_firstHolding_60_45 n I A J t x1 A2 v2_3)))))
def pb_X10_firstHolding_60_45 (n : Nat) (I : Nat → Nat → Int32) (A : Nat → Nat → Int32) (J : Nat → Nat → Int64) (t : Bool × Bool) (x1 : Int32) : Prop := lb_X10_firstHolding_60_45_2 n I A J t x1 n A 0
def px_X10_firstHolding_60_45 (n : Nat) (I : Nat → Nat → Int32) (A : Nat → Nat → Int32) (J : Nat → Nat → Int64) (t : Bool × Bool) (x1 : Int32) : Int32 := (lp_X10_firstHolding_60_45_2 n I A J t x1 n A 0).1
def pA_X10_firstHolding_60_45 (n : Nat) (I : Nat → Nat → Int32) (A : Nat → Nat → Int32) (J : Nat → Nat → Int64) (t : Bool × Bool) (x1 : Int32) : Nat → Nat → Int32 := (lp_X10_firstHolding_60_45_2 n I A J t x1 n A 0).2
set_option maxRecDepth 100000 in
set_option maxHeartbeats 4000000 in
theorem lt_X10_firstHolding_60_45_2 (g : cw_G) (n : Nat) (I : Nat → Nat → Int32) (A : Nat → Nat → Int32) (J : Nat → Nat → Int64) (t : Bool × Bool) (x1 : Int32) : ∀ (f : Nat) (A2 : Nat → Nat → Int32) (v2_3 : Int32), lb_X10_firstHolding_60_45_2 n I A J t x1 f A2 v2_3 → Ev g mX10_firstHolding 0 0 2 [some (.ref (cw_z g + 60)), some (.int x1), some (.ref (cw_z g + 45)), some (.int v2_3)] [] (hp g I A2 J t) (fun r2 τ2 => r2 = some (.int (lp_X10_firstHolding_60_45_2 n I A J t x1 f A2 v2_3).1) ∧ τ2 = (hp g I (lp_X10_firstHolding_60_45_2 n I A J t x1 f A2 v2_3).2 J t)) := by
  intro f
  induction f with
  | zero =>
    intro A2 v2_3 hb
    exact hb.elim
  | succ f ih =>
    intro A2 v2_3 hb
    rw [lb_X10_firstHolding_60_45_2] at hb
    refine ev_gen (fun Q hQ => ?_)
    rw [lp_X10_firstHolding_60_45_2] at hQ
    refine ev_iload_n (pc := 2) dX10_firstHolding_2 rfl ?_
    refine ev_aload_n (pc := 3) dX10_firstHolding_3 rfl ?_
    refine tv_geti (pc := 4) dX10_firstHolding_4 fl_X10_38 (by decide) rfl rfl ?_
    have hF_7 := hb
    refine ev_icmp_ge (pc := 7) (tgt := 47) dX10_firstHolding_7 (by decide) (fun c_7 => ?_) (fun c_7 => ?_)
    · try simp only [if_pos c_7] at hQ
      refine ev_iconst (pc := 47) (v := (-1)) dX10_firstHolding_47 (by decide) ?_
      exact ev_iret (pc := 48) dX10_firstHolding_48 rfl (by decide) (by decide) (hQ _ _ ⟨rfl, rfl⟩)
    · have hb := hF_7 c_7
      try simp only [if_neg c_7] at hQ
      refine ev_iload_n (pc := 10) dX10_firstHolding_10 rfl ?_
      refine ev_aload_n (pc := 11) dX10_firstHolding_11 rfl ?_
      refine tv_getr (pc := 12) (d := 62) dX10_firstHolding_12 fl_X10_15 (by decide) rfl rfl ?_
      refine ev_iload_n (pc := 15) dX10_firstHolding_15 rfl ?_
      refine ev_iald (pc := 16) dX10_firstHolding_16 (by decide) rfl hb.1 ?_
      replace hb := hb.2
      obtain ⟨hT_17, hF_17⟩ := hb
      refine ev_icmp_lt (pc := 17) (tgt := 41) dX10_firstHolding_17 (by decide) (fun c_17 => ?_) (fun c_17 => ?_)
      · have hb := hT_17 c_17
        try simp only [if_pos c_17] at hQ
        refine ev_iinc_3 (pc := 41) (v := (q41_X10_firstHolding_60_45 n I A J t x1 A2 v2_3)) dX10_firstHolding_41 (by decide) rfl rfl ?_
        refine ev_goto (pc := 44) (tgt := 2) dX10_firstHolding_44 (by decide) ?_
        exact ev_mono (ev_loc (ih A2 (q41_X10_firstHolding_60_45 n I A J t x1 A2 v2_3) hb) cw_le0) hQ
      · have hb := hF_17 c_17
        try simp only [if_neg c_17] at hQ
        refine ev_iload_n (pc := 20) dX10_firstHolding_20 rfl ?_
        refine ev_aload_n (pc := 21) dX10_firstHolding_21 rfl ?_
        refine tv_getr (pc := 22) (d := 63) dX10_firstHolding_22 fl_X10_19 (by decide) rfl rfl ?_
        refine ev_iload_n (pc := 25) dX10_firstHolding_25 rfl ?_
        refine ev_iald (pc := 26) dX10_firstHolding_26 (by decide) rfl hb.1 ?_
        replace hb := hb.2
        obtain ⟨hT_27, hF_27⟩ := hb
        refine ev_icmp_ge (pc := 27) (tgt := 41) dX10_firstHolding_27 (by decide) (fun c_27 => ?_) (fun c_27 => ?_)
        · have hb := hT_27 c_27
          try simp only [if_pos c_27] at hQ
          refine ev_iinc_3 (pc := 41) (v := (q41_X10_firstHolding_60_45 n I A J t x1 A2 v2_3)) dX10_firstHolding_41 (by decide) rfl rfl ?_
          refine ev_goto (pc := 44) (tgt := 2) dX10_firstHolding_44 (by decide) ?_
          exact ev_mono (ev_loc (ih A2 (q41_X10_firstHolding_60_45 n I A J t x1 A2 v2_3) hb) cw_le0) hQ
        · have hb := hF_27 c_27
          try simp only [if_neg c_27] at hQ
          refine ev_aload_n (pc := 30) dX10_firstHolding_30 rfl ?_
          refine ev_iload_n (pc := 31) dX10_firstHolding_31 rfl ?_
          refine ev_aload_n (pc := 32) dX10_firstHolding_32 rfl ?_
          refine ev_Vi (pc := 33) dX10_firstHolding_33 lk_X10_41 cd_X10_relsHold ar_X10_relsHold ⟨by decide, rfl, rfl⟩ (cv_X10_relsHold_60_45 g n I A2 J t v2_3 hb.1) (show 60 < 120 by decide) rfl rfl rfl rfl (Nat.le_of_ble_eq_true rfl) ⟨by decide, by decide⟩ ?_
          replace hb := hb.2
          have hT_36 := hb
          refine ev_if_eq (pc := 36) (tgt := 41) dX10_firstHolding_36 (by decide) (fun c_36 => ?_) (fun c_36 => ?_)
          · have hb := hT_36 c_36
            try simp only [if_pos c_36] at hQ
            refine ev_iinc_3 (pc := 41) (v := (q41_X10_firstHolding_60_45 n I A J t x1 A2 v2_3)) dX10_firstHolding_41 (by decide) rfl rfl ?_
            refine ev_goto (pc := 44) (tgt := 2) dX10_firstHolding_44 (by decide) ?_
            exact ev_mono (ev_loc (ih (pA_X10_relsHold_60_45 n I A2 J t v2_3) (q41_X10_firstHolding_60_45 n I A J t x1 A2 v2_3) hb) cw_le0) hQ
          · try simp only [if_neg c_36] at hQ
            refine ev_iload_n (pc := 39) dX10_firstHolding_39 rfl ?_
            exact ev_iret (pc := 40) dX10_firstHolding_40 rfl (by decide) (by decide) (hQ _ _ ⟨rfl, rfl⟩)

set_option maxRecDepth 100000 in
set_option maxHeartbeats 4000000 in
theorem cv_X10_firstHolding_60_45 (g : cw_G) (n : Nat) (I : Nat → Nat → Int32) (A : Nat → Nat → Int32) (J : Nat → Nat → Int64) (t : Bool × Bool) (x1 : Int32) (hb : pb_X10_firstHolding_60_45 n I A J t x1) : Cd g mX10_firstHolding [(.ref (cw_z g + 60)), (.int x1), (.ref (cw_z g + 45))] (hp g I A J t) (some (.int (px_X10_firstHolding_60_45 n I A J t x1))) (hp g I (pA_X10_firstHolding_60_45 n I A J t x1) J t) := by
  unfold pb_X10_firstHolding_60_45 at hb
  unfold px_X10_firstHolding_60_45 pA_X10_firstHolding_60_45
  refine Cd.of rfl (Nat.le_of_ble_eq_true rfl) (ev_gen (fun Q hQ => ?_))
  refine ev_iconst (pc := 0) (v := 0) dX10_firstHolding_0 (by decide) ?_
  refine ev_istore_3 (pc := 1) dX10_firstHolding_1 (by decide) rfl ?_
  exact ev_mono (ev_loc (lt_X10_firstHolding_60_45_2 g n I A J t x1 n A 0 hb) cw_le0) hQ
