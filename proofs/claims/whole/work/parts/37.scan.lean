def q7_X9_aimTo_5_1 (n : Nat) (I : Nat → Nat → Int32) (A : Nat → Nat → Int32) (J : Nat → Nat → Int64) (t : Bool × Bool) (x1 : Int32) (x2 : Int32) : Int32 := (px_X9_kindTo_5_1 n I A J t x1 x2)
def q32_X9_aimTo_5_1 (n : Nat) (I : Nat → Nat → Int32) (A : Nat → Nat → Int32) (J : Nat → Nat → Int64) (t : Bool × Bool) (x1 : Int32) (x2 : Int32) : Int32 := (px_X9_eastward_5_1 n I A J t x1 x2)
def qs0m47_X9_aimTo_5_1 (n : Nat) (I : Nat → Nat → Int32) (A : Nat → Nat → Int32) (J : Nat → Nat → Int64) (t : Bool × Bool) (x1 : Int32) (x2 : Int32) : Int32 := if 12 < (q32_X9_aimTo_5_1 n I A J t x1 x2) then (-1) else 1
def qs0m36_X9_aimTo_5_1 (n : Nat) (I : Nat → Nat → Int32) (A : Nat → Nat → Int32) (J : Nat → Nat → Int64) (t : Bool × Bool) (x1 : Int32) (x2 : Int32) : Int32 := if (q32_X9_aimTo_5_1 n I A J t x1 x2) = 0 then 0 else (qs0m47_X9_aimTo_5_1 n I A J t x1 x2)
def q72_X9_aimTo_5_1 (n : Nat) (I : Nat → Nat → Int32) (A : Nat → Nat → Int32) (J : Nat → Nat → Int64) (t : Bool × Bool) (x1 : Int32) (x2 : Int32) : Int32 := (px_J6_compare_7cf53 n I A J t (A 3 (x2).toNatClampNeg) (A 7 (x1).toNatClampNeg))
def pb_X9_aimTo_5_1 (n : Nat) (I : Nat → Nat → Int32) (A : Nat → Nat → Int32) (J : Nat → Nat → Int64) (t : Bool × Bool) (x1 : Int32) (x2 : Int32) : Prop := pb_X9_kindTo_5_1 n I A J t x1 x2 ∧ (¬ (q7_X9_aimTo_5_1 n I A J t x1 x2) = 1 → (¬ (q7_X9_aimTo_5_1 n I A J t x1 x2) = 2 → pb_X9_eastward_5_1 n I A J t x1 x2 ∧ vp_in x2 8 ∧ vp_in x1 4 ∧ vp_in (((((q72_X9_aimTo_5_1 n I A J t x1 x2) + 1) * 3) + (qs0m36_X9_aimTo_5_1 n I A J t x1 x2)) + 1) 9))
def px_X9_aimTo_5_1 (n : Nat) (I : Nat → Nat → Int32) (A : Nat → Nat → Int32) (J : Nat → Nat → Int64) (t : Bool × Bool) (x1 : Int32) (x2 : Int32) : Int32 := (if (q7_X9_aimTo_5_1 n I A J t x1 x2) = 1 then 0 else (if (q7_X9_aimTo_5_1 n I A J t x1 x2) = 2 then 4 else (cw_aims ((((((q72_X9_aimTo_5_1 n I A J t x1 x2) + 1) * 3) + (qs0m36_X9_aimTo_5_1 n I A J t x1 x2)) + 1)).toNatClampNeg)))
set_option maxRecDepth 100000 in
set_option maxHeartbeats 4000000 in
theorem cv_X9_aimTo_5_1 (g : cw_G) (n : Nat) (I : Nat → Nat → Int32) (A : Nat → Nat → Int32) (J : Nat → Nat → Int64) (t : Bool × Bool) (x1 : Int32) (x2 : Int32) (hb : pb_X9_aimTo_5_1 n I A J t x1 x2) : Cd g mX9_aimTo [(.ref (cw_z g + 5)), (.int x1), (.ref (cw_z g + 1)), (.int x2)] (hp g I A J t) (some (.int (px_X9_aimTo_5_1 n I A J t x1 x2))) (hp g I A J t) := by
  unfold pb_X9_aimTo_5_1 at hb
  unfold px_X9_aimTo_5_1
  refine Cd.of rfl (Nat.le_of_ble_eq_true rfl) (ev_gen (fun Q hQ => ?_))
  refine ev_aload_n (pc := 0) dX9_aimTo_0 rfl ?_
  refine ev_iload_n (pc := 1) dX9_aimTo_1 rfl ?_
  refine ev_aload_n (pc := 2) dX9_aimTo_2 rfl ?_
  refine ev_iload_n (pc := 3) dX9_aimTo_3 rfl ?_
  refine ev_Vi (pc := 4) dX9_aimTo_4 lk_X9_49 cd_X9_kindTo ar_X9_kindTo ⟨by decide, rfl, rfl⟩ (cv_X9_kindTo_5_1 g n I A J t x1 x2 hb.1) (show 5 < 120 by decide) rfl rfl rfl rfl (Nat.le_of_ble_eq_true rfl) ⟨by decide, by decide⟩ ?_
  replace hb := hb.2
  refine ev_is (y := (q7_X9_aimTo_5_1 n I A J t x1 x2)) rfl ?_
  refine ev_istore_4 (pc := 7) dX9_aimTo_7 (by decide) rfl ?_
  refine ev_iload (pc := 9) dX9_aimTo_9 rfl ?_
  refine ev_iconst (pc := 11) (v := 1) dX9_aimTo_11 (by decide) ?_
  have hT_12 := hb
  refine ev_icmp_ne (pc := 12) (tgt := 17) dX9_aimTo_12 (by decide) (fun c_12 => ?_) (fun c_12 => ?_)
  · have hb := hT_12 c_12
    try simp only [if_neg c_12] at hQ
    refine ev_iload (pc := 17) dX9_aimTo_17 rfl ?_
    refine ev_iconst (pc := 19) (v := 2) dX9_aimTo_19 (by decide) ?_
    have hT_20 := hb
    refine ev_icmp_ne (pc := 20) (tgt := 25) dX9_aimTo_20 (by decide) (fun c_20 => ?_) (fun c_20 => ?_)
    · have hb := hT_20 c_20
      try simp only [if_neg c_20] at hQ
      refine ev_aload_n (pc := 25) dX9_aimTo_25 rfl ?_
      refine ev_iload_n (pc := 26) dX9_aimTo_26 rfl ?_
      refine ev_aload_n (pc := 27) dX9_aimTo_27 rfl ?_
      refine ev_iload_n (pc := 28) dX9_aimTo_28 rfl ?_
      refine ev_Vi (pc := 29) dX9_aimTo_29 lk_X9_33 cd_X9_eastward ar_X9_eastward ⟨by decide, rfl, rfl⟩ (cv_X9_eastward_5_1 g n I A J t x1 x2 hb.1) (show 5 < 120 by decide) rfl rfl rfl rfl (Nat.le_of_ble_eq_true rfl) ⟨by decide, by decide⟩ ?_
      replace hb := hb.2
      refine ev_is (y := (q32_X9_aimTo_5_1 n I A J t x1 x2)) rfl ?_
      refine ev_istore_5 (pc := 32) dX9_aimTo_32 (by decide) rfl ?_
      refine ev_iload (pc := 34) dX9_aimTo_34 rfl ?_
      refine ev_cut (pj := 55) (Lj := [some (.ref (cw_z g + 5)), some (.int x1), some (.ref (cw_z g + 1)), some (.int x2), some (.int (q7_X9_aimTo_5_1 n I A J t x1 x2)), some (.int (q32_X9_aimTo_5_1 n I A J t x1 x2)), none, none]) (stj := [(.int (qs0m36_X9_aimTo_5_1 n I A J t x1 x2))]) (σj := hp g I A J t) ?_ (fun hJ_36 => ?_)
      rotate_left
      · refine ev_if_ne (pc := 36) (tgt := 43) dX9_aimTo_36 (by decide) (fun c_36 => ?_) (fun c_36 => ?_)
        · refine ev_iload (pc := 43) dX9_aimTo_43 rfl ?_
          refine ev_bipush (pc := 45) (v := 12) dX9_aimTo_45 (by decide) ?_
          refine ev_cut (pj := 55) (Lj := [some (.ref (cw_z g + 5)), some (.int x1), some (.ref (cw_z g + 1)), some (.int x2), some (.int (q7_X9_aimTo_5_1 n I A J t x1 x2)), some (.int (q32_X9_aimTo_5_1 n I A J t x1 x2)), none, none]) (stj := [(.int (qs0m47_X9_aimTo_5_1 n I A J t x1 x2))]) (σj := hp g I A J t) ?_ (fun hJ_47 => ?_)
          rotate_left
          · refine ev_icmp_gt (pc := 47) (tgt := 54) dX9_aimTo_47 (by decide) (fun c_47 => ?_) (fun c_47 => ?_)
            · refine ev_iconst (pc := 54) (v := (-1)) dX9_aimTo_54 (by decide) ?_
              simp only [qs0m47_X9_aimTo_5_1, if_pos c_47] at hJ_47
              exact ev_loc hJ_47 cw_le0
            · refine ev_iconst (pc := 50) (v := 1) dX9_aimTo_50 (by decide) ?_
              refine ev_goto (pc := 51) (tgt := 55) dX9_aimTo_51 (by decide) ?_
              simp only [qs0m47_X9_aimTo_5_1, if_neg c_47] at hJ_47
              exact ev_loc hJ_47 cw_le0
          simp only [qs0m36_X9_aimTo_5_1, if_neg c_36] at hJ_36
          exact ev_loc hJ_36 cw_le0
        · refine ev_iconst (pc := 39) (v := 0) dX9_aimTo_39 (by decide) ?_
          refine ev_goto (pc := 40) (tgt := 55) dX9_aimTo_40 (by decide) ?_
          simp only [qs0m36_X9_aimTo_5_1, if_pos c_36] at hJ_36
          exact ev_loc hJ_36 cw_le0
      refine ev_istore_6 (pc := 55) dX9_aimTo_55 (by decide) rfl ?_
      refine ev_aload_n (pc := 57) dX9_aimTo_57 rfl ?_
      refine tv_getr (pc := 58) (d := 3) dX9_aimTo_58 fl_X9_19 (by decide) rfl rfl ?_
      refine ev_iload_n (pc := 61) dX9_aimTo_61 rfl ?_
      refine ev_iald (pc := 62) dX9_aimTo_62 (by decide) rfl hb.1 ?_
      replace hb := hb.2
      refine ev_aload_n (pc := 63) dX9_aimTo_63 rfl ?_
      refine tv_getr (pc := 64) (d := 7) dX9_aimTo_64 fl_X9_19 (by decide) rfl rfl ?_
      refine ev_iload_n (pc := 67) dX9_aimTo_67 rfl ?_
      refine ev_iald (pc := 68) dX9_aimTo_68 (by decide) rfl hb.1 ?_
      replace hb := hb.2
      refine ev_Si (pc := 69) dX9_aimTo_69 lk_X9_52 cd_J6_compare_7cf53 ar_J6_compare_7cf53 ⟨by decide, rfl, rfl⟩ (cv_J6_compare_7cf53 g n I A J t (A 3 (x2).toNatClampNeg) (A 7 (x1).toNatClampNeg)) rfl rfl (Nat.le_of_ble_eq_true rfl) ⟨by decide, by decide⟩ ?_
      refine ev_is (y := (q72_X9_aimTo_5_1 n I A J t x1 x2)) rfl ?_
      refine ev_istore_7 (pc := 72) dX9_aimTo_72 (by decide) rfl ?_
      refine ev_gets (pc := 74) (v := .ref (cw_ad g).1) (fun s h => h.1) dX9_aimTo_74 sl_ai ?_
      refine ev_iload (pc := 77) dX9_aimTo_77 rfl ?_
      refine ev_iconst (pc := 79) (v := 1) dX9_aimTo_79 (by decide) ?_
      refine ev_iadd (pc := 80) dX9_aimTo_80 ?_
      refine ev_iconst (pc := 81) (v := 3) dX9_aimTo_81 (by decide) ?_
      refine ev_imul (pc := 82) dX9_aimTo_82 ?_
      refine ev_iload (pc := 83) dX9_aimTo_83 rfl ?_
      refine ev_iadd (pc := 85) dX9_aimTo_85 ?_
      refine ev_iconst (pc := 86) (v := 1) dX9_aimTo_86 (by decide) ?_
      refine ev_iadd (pc := 87) dX9_aimTo_87 ?_
      refine ev_aims (pc := 88) dX9_aimTo_88 hb ?_
      exact ev_iret (pc := 89) dX9_aimTo_89 rfl (by decide) (by decide) (hQ _ _ ⟨rfl, rfl⟩)
    · try simp only [if_pos c_20] at hQ
      refine ev_iconst (pc := 23) (v := 4) dX9_aimTo_23 (by decide) ?_
      exact ev_iret (pc := 24) dX9_aimTo_24 rfl (by decide) (by decide) (hQ _ _ ⟨rfl, rfl⟩)
  · try simp only [if_pos c_12] at hQ
    refine ev_iconst (pc := 15) (v := 0) dX9_aimTo_15 (by decide) ?_
    exact ev_iret (pc := 16) dX9_aimTo_16 rfl (by decide) (by decide) (hQ _ _ ⟨rfl, rfl⟩)

def qs0m21_X7_isBlank (n : Nat) (I : Nat → Nat → Int32) (A : Nat → Nat → Int32) (J : Nat → Nat → Int64) (t : Bool × Bool) (x1 : Int32) : Int32 := if x1 = 32 then 1 else 0
def qs0m15_X7_isBlank (n : Nat) (I : Nat → Nat → Int32) (A : Nat → Nat → Int32) (J : Nat → Nat → Int64) (t : Bool × Bool) (x1 : Int32) : Int32 := if x1 = 13 then 1 else (qs0m21_X7_isBlank n I A J t x1)
def qs0m9_X7_isBlank (n : Nat) (I : Nat → Nat → Int32) (A : Nat → Nat → Int32) (J : Nat → Nat → Int64) (t : Bool × Bool) (x1 : Int32) : Int32 := if x1 = 10 then 1 else (qs0m15_X7_isBlank n I A J t x1)
def qs0m3_X7_isBlank (n : Nat) (I : Nat → Nat → Int32) (A : Nat → Nat → Int32) (J : Nat → Nat → Int64) (t : Bool × Bool) (x1 : Int32) : Int32 := if x1 = 9 then 1 else (qs0m9_X7_isBlank n I A J t x1)
def px_X7_isBlank (n : Nat) (I : Nat → Nat → Int32) (A : Nat → Nat → Int32) (J : Nat → Nat → Int64) (t : Bool × Bool) (x1 : Int32) : Int32 := (qs0m3_X7_isBlank n I A J t x1)
set_option maxRecDepth 100000 in
set_option maxHeartbeats 4000000 in
theorem cv_X7_isBlank (g : cw_G) (n : Nat) (I : Nat → Nat → Int32) (A : Nat → Nat → Int32) (J : Nat → Nat → Int64) (t : Bool × Bool) (x1 : Int32) : Cd g mX7_isBlank [(.int x1)] (hp g I A J t) (some (.int (px_X7_isBlank n I A J t x1))) (hp g I A J t) := by
  unfold px_X7_isBlank
  refine Cd.of rfl (Nat.le_of_ble_eq_true rfl) (ev_gen (fun Q hQ => ?_))
  refine ev_iload_n (pc := 0) dX7_isBlank_0 rfl ?_
  refine ev_bipush (pc := 1) (v := 9) dX7_isBlank_1 (by decide) ?_
  refine ev_cut (pj := 29) (Lj := [some (.int x1)]) (stj := [(.int (qs0m3_X7_isBlank n I A J t x1))]) (σj := hp g I A J t) ?_ (fun hJ_3 => ?_)
  rotate_left
  · refine ev_icmp_eq (pc := 3) (tgt := 24) dX7_isBlank_3 (by decide) (fun c_3 => ?_) (fun c_3 => ?_)
    · refine ev_iconst (pc := 24) (v := 1) dX7_isBlank_24 (by decide) ?_
      refine ev_goto (pc := 25) (tgt := 29) dX7_isBlank_25 (by decide) ?_
      simp only [qs0m3_X7_isBlank, if_pos c_3] at hJ_3
      exact ev_loc hJ_3 cw_le0
    · refine ev_iload_n (pc := 6) dX7_isBlank_6 rfl ?_
      refine ev_bipush (pc := 7) (v := 10) dX7_isBlank_7 (by decide) ?_
      refine ev_cut (pj := 29) (Lj := [some (.int x1)]) (stj := [(.int (qs0m9_X7_isBlank n I A J t x1))]) (σj := hp g I A J t) ?_ (fun hJ_9 => ?_)
      rotate_left
      · refine ev_icmp_eq (pc := 9) (tgt := 24) dX7_isBlank_9 (by decide) (fun c_9 => ?_) (fun c_9 => ?_)
        · refine ev_iconst (pc := 24) (v := 1) dX7_isBlank_24 (by decide) ?_
          refine ev_goto (pc := 25) (tgt := 29) dX7_isBlank_25 (by decide) ?_
          simp only [qs0m9_X7_isBlank, if_pos c_9] at hJ_9
          exact ev_loc hJ_9 cw_le0
        · refine ev_iload_n (pc := 12) dX7_isBlank_12 rfl ?_
          refine ev_bipush (pc := 13) (v := 13) dX7_isBlank_13 (by decide) ?_
          refine ev_cut (pj := 29) (Lj := [some (.int x1)]) (stj := [(.int (qs0m15_X7_isBlank n I A J t x1))]) (σj := hp g I A J t) ?_ (fun hJ_15 => ?_)
          rotate_left
          · refine ev_icmp_eq (pc := 15) (tgt := 24) dX7_isBlank_15 (by decide) (fun c_15 => ?_) (fun c_15 => ?_)
            · refine ev_iconst (pc := 24) (v := 1) dX7_isBlank_24 (by decide) ?_
              refine ev_goto (pc := 25) (tgt := 29) dX7_isBlank_25 (by decide) ?_
              simp only [qs0m15_X7_isBlank, if_pos c_15] at hJ_15
              exact ev_loc hJ_15 cw_le0
            · refine ev_iload_n (pc := 18) dX7_isBlank_18 rfl ?_
              refine ev_bipush (pc := 19) (v := 32) dX7_isBlank_19 (by decide) ?_
              refine ev_cut (pj := 29) (Lj := [some (.int x1)]) (stj := [(.int (qs0m21_X7_isBlank n I A J t x1))]) (σj := hp g I A J t) ?_ (fun hJ_21 => ?_)
              rotate_left
              · refine ev_icmp_ne (pc := 21) (tgt := 28) dX7_isBlank_21 (by decide) (fun c_21 => ?_) (fun c_21 => ?_)
                · refine ev_iconst (pc := 28) (v := 0) dX7_isBlank_28 (by decide) ?_
                  simp only [qs0m21_X7_isBlank, if_neg c_21] at hJ_21
                  exact ev_loc hJ_21 cw_le0
                · refine ev_iconst (pc := 24) (v := 1) dX7_isBlank_24 (by decide) ?_
                  refine ev_goto (pc := 25) (tgt := 29) dX7_isBlank_25 (by decide) ?_
                  simp only [qs0m21_X7_isBlank, if_pos c_21] at hJ_21
                  exact ev_loc hJ_21 cw_le0
              simp only [qs0m15_X7_isBlank, if_neg c_15] at hJ_15
              exact ev_loc hJ_15 cw_le0
          simp only [qs0m9_X7_isBlank, if_neg c_9] at hJ_9
          exact ev_loc hJ_9 cw_le0
      simp only [qs0m3_X7_isBlank, if_neg c_3] at hJ_3
      exact ev_loc hJ_3 cw_le0
  exact ev_zret (pc := 29) dX7_isBlank_29 rfl (cw_nz (cw_ite (Or.inr rfl) (cw_ite (Or.inr rfl) (cw_ite (Or.inr rfl) (cw_ite (Or.inr rfl) (Or.inl rfl)))))) (by decide) (by decide) (hQ _ _ ⟨rfl, rfl⟩)

theorem z1_X7_isBlank (n : Nat) (I : Nat → Nat → Int32) (A : Nat → Nat → Int32) (J : Nat → Nat → Int64) (t : Bool × Bool) (x1 : Int32) : px_X7_isBlank n I A J t x1 = 0 ∨ px_X7_isBlank n I A J t x1 = 1 := (cw_ite (Or.inr rfl) (cw_ite (Or.inr rfl) (cw_ite (Or.inr rfl) (cw_ite (Or.inr rfl) (Or.inl rfl)))))

def qs0m9_X7_isLetter (n : Nat) (I : Nat → Nat → Int32) (A : Nat → Nat → Int32) (J : Nat → Nat → Int64) (t : Bool × Bool) (x1 : Int32) : Int32 := if 122 < x1 then 0 else 1
def qs0m3_X7_isLetter (n : Nat) (I : Nat → Nat → Int32) (A : Nat → Nat → Int32) (J : Nat → Nat → Int64) (t : Bool × Bool) (x1 : Int32) : Int32 := if x1 < 97 then 0 else (qs0m9_X7_isLetter n I A J t x1)
def px_X7_isLetter (n : Nat) (I : Nat → Nat → Int32) (A : Nat → Nat → Int32) (J : Nat → Nat → Int64) (t : Bool × Bool) (x1 : Int32) : Int32 := (qs0m3_X7_isLetter n I A J t x1)
set_option maxRecDepth 100000 in
set_option maxHeartbeats 4000000 in
theorem cv_X7_isLetter (g : cw_G) (n : Nat) (I : Nat → Nat → Int32) (A : Nat → Nat → Int32) (J : Nat → Nat → Int64) (t : Bool × Bool) (x1 : Int32) : Cd g mX7_isLetter [(.int x1)] (hp g I A J t) (some (.int (px_X7_isLetter n I A J t x1))) (hp g I A J t) := by
  unfold px_X7_isLetter
  refine Cd.of rfl (Nat.le_of_ble_eq_true rfl) (ev_gen (fun Q hQ => ?_))
  refine ev_iload_n (pc := 0) dX7_isLetter_0 rfl ?_
  refine ev_bipush (pc := 1) (v := 97) dX7_isLetter_1 (by decide) ?_
  refine ev_cut (pj := 17) (Lj := [some (.int x1)]) (stj := [(.int (qs0m3_X7_isLetter n I A J t x1))]) (σj := hp g I A J t) ?_ (fun hJ_3 => ?_)
  rotate_left
  · refine ev_icmp_lt (pc := 3) (tgt := 16) dX7_isLetter_3 (by decide) (fun c_3 => ?_) (fun c_3 => ?_)
    · refine ev_iconst (pc := 16) (v := 0) dX7_isLetter_16 (by decide) ?_
      simp only [qs0m3_X7_isLetter, if_pos c_3] at hJ_3
      exact ev_loc hJ_3 cw_le0
    · refine ev_iload_n (pc := 6) dX7_isLetter_6 rfl ?_
      refine ev_bipush (pc := 7) (v := 122) dX7_isLetter_7 (by decide) ?_
      refine ev_cut (pj := 17) (Lj := [some (.int x1)]) (stj := [(.int (qs0m9_X7_isLetter n I A J t x1))]) (σj := hp g I A J t) ?_ (fun hJ_9 => ?_)
      rotate_left
      · refine ev_icmp_gt (pc := 9) (tgt := 16) dX7_isLetter_9 (by decide) (fun c_9 => ?_) (fun c_9 => ?_)
        · refine ev_iconst (pc := 16) (v := 0) dX7_isLetter_16 (by decide) ?_
          simp only [qs0m9_X7_isLetter, if_pos c_9] at hJ_9
          exact ev_loc hJ_9 cw_le0
        · refine ev_iconst (pc := 12) (v := 1) dX7_isLetter_12 (by decide) ?_
          refine ev_goto (pc := 13) (tgt := 17) dX7_isLetter_13 (by decide) ?_
          simp only [qs0m9_X7_isLetter, if_neg c_9] at hJ_9
          exact ev_loc hJ_9 cw_le0
      simp only [qs0m3_X7_isLetter, if_neg c_3] at hJ_3
      exact ev_loc hJ_3 cw_le0
  exact ev_zret (pc := 17) dX7_isLetter_17 rfl (cw_nz (cw_ite (Or.inl rfl) (cw_ite (Or.inl rfl) (Or.inr rfl)))) (by decide) (by decide) (hQ _ _ ⟨rfl, rfl⟩)

theorem z1_X7_isLetter (n : Nat) (I : Nat → Nat → Int32) (A : Nat → Nat → Int32) (J : Nat → Nat → Int64) (t : Bool × Bool) (x1 : Int32) : px_X7_isLetter n I A J t x1 = 0 ∨ px_X7_isLetter n I A J t x1 = 1 := (cw_ite (Or.inl rfl) (cw_ite (Or.inl rfl) (Or.inr rfl)))

def qs0m9_X7_isDigit (n : Nat) (I : Nat → Nat → Int32) (A : Nat → Nat → Int32) (J : Nat → Nat → Int64) (t : Bool × Bool) (x1 : Int32) : Int32 := if 57 < x1 then 0 else 1
def qs0m3_X7_isDigit (n : Nat) (I : Nat → Nat → Int32) (A : Nat → Nat → Int32) (J : Nat → Nat → Int64) (t : Bool × Bool) (x1 : Int32) : Int32 := if x1 < 48 then 0 else (qs0m9_X7_isDigit n I A J t x1)
def px_X7_isDigit (n : Nat) (I : Nat → Nat → Int32) (A : Nat → Nat → Int32) (J : Nat → Nat → Int64) (t : Bool × Bool) (x1 : Int32) : Int32 := (qs0m3_X7_isDigit n I A J t x1)
set_option maxRecDepth 100000 in
set_option maxHeartbeats 4000000 in
theorem cv_X7_isDigit (g : cw_G) (n : Nat) (I : Nat → Nat → Int32) (A : Nat → Nat → Int32) (J : Nat → Nat → Int64) (t : Bool × Bool) (x1 : Int32) : Cd g mX7_isDigit [(.int x1)] (hp g I A J t) (some (.int (px_X7_isDigit n I A J t x1))) (hp g I A J t) := by
  unfold px_X7_isDigit
  refine Cd.of rfl (Nat.le_of_ble_eq_true rfl) (ev_gen (fun Q hQ => ?_))
  refine ev_iload_n (pc := 0) dX7_isDigit_0 rfl ?_
  refine ev_bipush (pc := 1) (v := 48) dX7_isDigit_1 (by decide) ?_
  refine ev_cut (pj := 17) (Lj := [some (.int x1)]) (stj := [(.int (qs0m3_X7_isDigit n I A J t x1))]) (σj := hp g I A J t) ?_ (fun hJ_3 => ?_)
  rotate_left
  · refine ev_icmp_lt (pc := 3) (tgt := 16) dX7_isDigit_3 (by decide) (fun c_3 => ?_) (fun c_3 => ?_)
    · refine ev_iconst (pc := 16) (v := 0) dX7_isDigit_16 (by decide) ?_
      simp only [qs0m3_X7_isDigit, if_pos c_3] at hJ_3
      exact ev_loc hJ_3 cw_le0
    · refine ev_iload_n (pc := 6) dX7_isDigit_6 rfl ?_
      refine ev_bipush (pc := 7) (v := 57) dX7_isDigit_7 (by decide) ?_
      refine ev_cut (pj := 17) (Lj := [some (.int x1)]) (stj := [(.int (qs0m9_X7_isDigit n I A J t x1))]) (σj := hp g I A J t) ?_ (fun hJ_9 => ?_)
      rotate_left
      · refine ev_icmp_gt (pc := 9) (tgt := 16) dX7_isDigit_9 (by decide) (fun c_9 => ?_) (fun c_9 => ?_)
        · refine ev_iconst (pc := 16) (v := 0) dX7_isDigit_16 (by decide) ?_
          simp only [qs0m9_X7_isDigit, if_pos c_9] at hJ_9
          exact ev_loc hJ_9 cw_le0
        · refine ev_iconst (pc := 12) (v := 1) dX7_isDigit_12 (by decide) ?_
          refine ev_goto (pc := 13) (tgt := 17) dX7_isDigit_13 (by decide) ?_
          simp only [qs0m9_X7_isDigit, if_neg c_9] at hJ_9
          exact ev_loc hJ_9 cw_le0
      simp only [qs0m3_X7_isDigit, if_neg c_3] at hJ_3
      exact ev_loc hJ_3 cw_le0
  exact ev_zret (pc := 17) dX7_isDigit_17 rfl (cw_nz (cw_ite (Or.inl rfl) (cw_ite (Or.inl rfl) (Or.inr rfl)))) (by decide) (by decide) (hQ _ _ ⟨rfl, rfl⟩)

theorem z1_X7_isDigit (n : Nat) (I : Nat → Nat → Int32) (A : Nat → Nat → Int32) (J : Nat → Nat → Int64) (t : Bool × Bool) (x1 : Int32) : px_X7_isDigit n I A J t x1 = 0 ∨ px_X7_isDigit n I A J t x1 = 1 := (cw_ite (Or.inl rfl) (cw_ite (Or.inl rfl) (Or.inr rfl)))

def qs0m171_X7_signOf (n : Nat) (I : Nat → Nat → Int32) (A : Nat → Nat → Int32) (J : Nat → Nat → Int64) (t : Bool × Bool) (x1 : Int32) (x2 : Int32) : Int32 := if x2 = 0 then 1 else 8
def qs0m148_X7_signOf (n : Nat) (I : Nat → Nat → Int32) (A : Nat → Nat → Int32) (J : Nat → Nat → Int64) (t : Bool × Bool) (x1 : Int32) (x2 : Int32) : Int32 := if x2 = 0 then 9 else 10
def qs0m160_X7_signOf (n : Nat) (I : Nat → Nat → Int32) (A : Nat → Nat → Int32) (J : Nat → Nat → Int64) (t : Bool × Bool) (x1 : Int32) (x2 : Int32) : Int32 := if x2 = 0 then 1 else 7
def px_X7_signOf (n : Nat) (I : Nat → Nat → Int32) (A : Nat → Nat → Int32) (J : Nat → Nat → Int64) (t : Bool × Bool) (x1 : Int32) (x2 : Int32) : Int32 := (if x1 = 33 then (qs0m171_X7_signOf n I A J t x1 x2) else (if x1 = 34 then 1 else (if x1 = 35 then 1 else (if x1 = 36 then 1 else (if x1 = 37 then 1 else (if x1 = 38 then 1 else (if x1 = 39 then 1 else (if x1 = 40 then 11 else (if x1 = 41 then 12 else (if x1 = 42 then 6 else (if x1 = 43 then 4 else (if x1 = 44 then 1 else (if x1 = 45 then 5 else (if x1 = 46 then 1 else (if x1 = 47 then 1 else (if x1 = 48 then 1 else (if x1 = 49 then 1 else (if x1 = 50 then 1 else (if x1 = 51 then 1 else (if x1 = 52 then 1 else (if x1 = 53 then 1 else (if x1 = 54 then 1 else (if x1 = 55 then 1 else (if x1 = 56 then 1 else (if x1 = 57 then 1 else (if x1 = 58 then 1 else (if x1 = 59 then 3 else (if x1 = 60 then (qs0m148_X7_signOf n I A J t x1 x2) else (if x1 = 61 then (qs0m160_X7_signOf n I A J t x1 x2) else 1)))))))))))))))))))))))))))))
set_option maxRecDepth 100000 in
set_option maxHeartbeats 4000000 in
theorem cv_X7_signOf (g : cw_G) (n : Nat) (I : Nat → Nat → Int32) (A : Nat → Nat → Int32) (J : Nat → Nat → Int64) (t : Bool × Bool) (x1 : Int32) (x2 : Int32) : Cd g mX7_signOf [(.int x1), (.int x2)] (hp g I A J t) (some (.int (px_X7_signOf n I A J t x1 x2))) (hp g I A J t) := by
  unfold px_X7_signOf
  refine Cd.of rfl (Nat.le_of_ble_eq_true rfl) (ev_gen (fun Q hQ => ?_))
  refine ev_iload_n (pc := 0) dX7_signOf_0 rfl ?_
  by_cases s_1_33 : x1 = 33
  · try simp only [if_pos s_1_33] at hQ
    refine ev_tableIn (pc := 1) (tgt := 170) (off := 169) dX7_signOf_1 (by rw [s_1_33]; decide) (by rw [s_1_33]; decide) (by rw [s_1_33]; decide) (by decide) ?_
    refine ev_iload_n (pc := 170) dX7_signOf_170 rfl ?_
    refine ev_cut (pj := 180) (Lj := [some (.int x1), some (.int x2)]) (stj := [(.int (qs0m171_X7_signOf n I A J t x1 x2))]) (σj := hp g I A J t) ?_ (fun hJ_171 => ?_)
    rotate_left
    · refine ev_if_eq (pc := 171) (tgt := 179) dX7_signOf_171 (by decide) (fun c_171 => ?_) (fun c_171 => ?_)
      · refine ev_iconst (pc := 179) (v := 1) dX7_signOf_179 (by decide) ?_
        simp only [qs0m171_X7_signOf, if_pos c_171] at hJ_171
        exact ev_loc hJ_171 cw_le0
      · refine ev_bipush (pc := 174) (v := 8) dX7_signOf_174 (by decide) ?_
        refine ev_goto (pc := 176) (tgt := 180) dX7_signOf_176 (by decide) ?_
        simp only [qs0m171_X7_signOf, if_neg c_171] at hJ_171
        exact ev_loc hJ_171 cw_le0
    exact ev_iret (pc := 180) dX7_signOf_180 rfl (by decide) (by decide) (hQ _ _ ⟨rfl, rfl⟩)
  try simp only [if_neg s_1_33] at hQ
  by_cases s_1_34 : x1 = 34
  · try simp only [if_pos s_1_34] at hQ
    refine ev_tableIn (pc := 1) (tgt := 181) (off := 180) dX7_signOf_1 (by rw [s_1_34]; decide) (by rw [s_1_34]; decide) (by rw [s_1_34]; decide) (by decide) ?_
    refine ev_iconst (pc := 181) (v := 1) dX7_signOf_181 (by decide) ?_
    exact ev_iret (pc := 182) dX7_signOf_182 rfl (by decide) (by decide) (hQ _ _ ⟨rfl, rfl⟩)
  try simp only [if_neg s_1_34] at hQ
  by_cases s_1_35 : x1 = 35
  · try simp only [if_pos s_1_35] at hQ
    refine ev_tableIn (pc := 1) (tgt := 181) (off := 180) dX7_signOf_1 (by rw [s_1_35]; decide) (by rw [s_1_35]; decide) (by rw [s_1_35]; decide) (by decide) ?_
    refine ev_iconst (pc := 181) (v := 1) dX7_signOf_181 (by decide) ?_
    exact ev_iret (pc := 182) dX7_signOf_182 rfl (by decide) (by decide) (hQ _ _ ⟨rfl, rfl⟩)
  try simp only [if_neg s_1_35] at hQ
  by_cases s_1_36 : x1 = 36
  · try simp only [if_pos s_1_36] at hQ
    refine ev_tableIn (pc := 1) (tgt := 181) (off := 180) dX7_signOf_1 (by rw [s_1_36]; decide) (by rw [s_1_36]; decide) (by rw [s_1_36]; decide) (by decide) ?_
    refine ev_iconst (pc := 181) (v := 1) dX7_signOf_181 (by decide) ?_
    exact ev_iret (pc := 182) dX7_signOf_182 rfl (by decide) (by decide) (hQ _ _ ⟨rfl, rfl⟩)
  try simp only [if_neg s_1_36] at hQ
  by_cases s_1_37 : x1 = 37
  · try simp only [if_pos s_1_37] at hQ
    refine ev_tableIn (pc := 1) (tgt := 181) (off := 180) dX7_signOf_1 (by rw [s_1_37]; decide) (by rw [s_1_37]; decide) (by rw [s_1_37]; decide) (by decide) ?_
    refine ev_iconst (pc := 181) (v := 1) dX7_signOf_181 (by decide) ?_
    exact ev_iret (pc := 182) dX7_signOf_182 rfl (by decide) (by decide) (hQ _ _ ⟨rfl, rfl⟩)
  try simp only [if_neg s_1_37] at hQ
  by_cases s_1_38 : x1 = 38
  · try simp only [if_pos s_1_38] at hQ
    refine ev_tableIn (pc := 1) (tgt := 181) (off := 180) dX7_signOf_1 (by rw [s_1_38]; decide) (by rw [s_1_38]; decide) (by rw [s_1_38]; decide) (by decide) ?_
    refine ev_iconst (pc := 181) (v := 1) dX7_signOf_181 (by decide) ?_
    exact ev_iret (pc := 182) dX7_signOf_182 rfl (by decide) (by decide) (hQ _ _ ⟨rfl, rfl⟩)
  try simp only [if_neg s_1_38] at hQ
  by_cases s_1_39 : x1 = 39
  · try simp only [if_pos s_1_39] at hQ
    refine ev_tableIn (pc := 1) (tgt := 181) (off := 180) dX7_signOf_1 (by rw [s_1_39]; decide) (by rw [s_1_39]; decide) (by rw [s_1_39]; decide) (by decide) ?_
    refine ev_iconst (pc := 181) (v := 1) dX7_signOf_181 (by decide) ?_
    exact ev_iret (pc := 182) dX7_signOf_182 rfl (by decide) (by decide) (hQ _ _ ⟨rfl, rfl⟩)
  try simp only [if_neg s_1_39] at hQ
  by_cases s_1_40 : x1 = 40
  · try simp only [if_pos s_1_40] at hQ
    refine ev_tableIn (pc := 1) (tgt := 141) (off := 140) dX7_signOf_1 (by rw [s_1_40]; decide) (by rw [s_1_40]; decide) (by rw [s_1_40]; decide) (by decide) ?_
    refine ev_bipush (pc := 141) (v := 11) dX7_signOf_141 (by decide) ?_
    exact ev_iret (pc := 143) dX7_signOf_143 rfl (by decide) (by decide) (hQ _ _ ⟨rfl, rfl⟩)
  try simp only [if_neg s_1_40] at hQ
  by_cases s_1_41 : x1 = 41
  · try simp only [if_pos s_1_41] at hQ
    refine ev_tableIn (pc := 1) (tgt := 144) (off := 143) dX7_signOf_1 (by rw [s_1_41]; decide) (by rw [s_1_41]; decide) (by rw [s_1_41]; decide) (by decide) ?_
    refine ev_bipush (pc := 144) (v := 12) dX7_signOf_144 (by decide) ?_
    exact ev_iret (pc := 146) dX7_signOf_146 rfl (by decide) (by decide) (hQ _ _ ⟨rfl, rfl⟩)
  try simp only [if_neg s_1_41] at hQ
  by_cases s_1_42 : x1 = 42
  · try simp only [if_pos s_1_42] at hQ
    refine ev_tableIn (pc := 1) (tgt := 138) (off := 137) dX7_signOf_1 (by rw [s_1_42]; decide) (by rw [s_1_42]; decide) (by rw [s_1_42]; decide) (by decide) ?_
    refine ev_bipush (pc := 138) (v := 6) dX7_signOf_138 (by decide) ?_
    exact ev_iret (pc := 140) dX7_signOf_140 rfl (by decide) (by decide) (hQ _ _ ⟨rfl, rfl⟩)
  try simp only [if_neg s_1_42] at hQ
  by_cases s_1_43 : x1 = 43
  · try simp only [if_pos s_1_43] at hQ
    refine ev_tableIn (pc := 1) (tgt := 134) (off := 133) dX7_signOf_1 (by rw [s_1_43]; decide) (by rw [s_1_43]; decide) (by rw [s_1_43]; decide) (by decide) ?_
    refine ev_iconst (pc := 134) (v := 4) dX7_signOf_134 (by decide) ?_
    exact ev_iret (pc := 135) dX7_signOf_135 rfl (by decide) (by decide) (hQ _ _ ⟨rfl, rfl⟩)
  try simp only [if_neg s_1_43] at hQ
  by_cases s_1_44 : x1 = 44
  · try simp only [if_pos s_1_44] at hQ
    refine ev_tableIn (pc := 1) (tgt := 181) (off := 180) dX7_signOf_1 (by rw [s_1_44]; decide) (by rw [s_1_44]; decide) (by rw [s_1_44]; decide) (by decide) ?_
    refine ev_iconst (pc := 181) (v := 1) dX7_signOf_181 (by decide) ?_
    exact ev_iret (pc := 182) dX7_signOf_182 rfl (by decide) (by decide) (hQ _ _ ⟨rfl, rfl⟩)
  try simp only [if_neg s_1_44] at hQ
  by_cases s_1_45 : x1 = 45
  · try simp only [if_pos s_1_45] at hQ
    refine ev_tableIn (pc := 1) (tgt := 136) (off := 135) dX7_signOf_1 (by rw [s_1_45]; decide) (by rw [s_1_45]; decide) (by rw [s_1_45]; decide) (by decide) ?_
    refine ev_iconst (pc := 136) (v := 5) dX7_signOf_136 (by decide) ?_
    exact ev_iret (pc := 137) dX7_signOf_137 rfl (by decide) (by decide) (hQ _ _ ⟨rfl, rfl⟩)
  try simp only [if_neg s_1_45] at hQ
  by_cases s_1_46 : x1 = 46
  · try simp only [if_pos s_1_46] at hQ
    refine ev_tableIn (pc := 1) (tgt := 181) (off := 180) dX7_signOf_1 (by rw [s_1_46]; decide) (by rw [s_1_46]; decide) (by rw [s_1_46]; decide) (by decide) ?_
    refine ev_iconst (pc := 181) (v := 1) dX7_signOf_181 (by decide) ?_
    exact ev_iret (pc := 182) dX7_signOf_182 rfl (by decide) (by decide) (hQ _ _ ⟨rfl, rfl⟩)
  try simp only [if_neg s_1_46] at hQ
  by_cases s_1_47 : x1 = 47
  · try simp only [if_pos s_1_47] at hQ
    refine ev_tableIn (pc := 1) (tgt := 181) (off := 180) dX7_signOf_1 (by rw [s_1_47]; decide) (by rw [s_1_47]; decide) (by rw [s_1_47]; decide) (by decide) ?_
    refine ev_iconst (pc := 181) (v := 1) dX7_signOf_181 (by decide) ?_
    exact ev_iret (pc := 182) dX7_signOf_182 rfl (by decide) (by decide) (hQ _ _ ⟨rfl, rfl⟩)
  try simp only [if_neg s_1_47] at hQ
  by_cases s_1_48 : x1 = 48
  · try simp only [if_pos s_1_48] at hQ
    refine ev_tableIn (pc := 1) (tgt := 181) (off := 180) dX7_signOf_1 (by rw [s_1_48]; decide) (by rw [s_1_48]; decide) (by rw [s_1_48]; decide) (by decide) ?_
    refine ev_iconst (pc := 181) (v := 1) dX7_signOf_181 (by decide) ?_
    exact ev_iret (pc := 182) dX7_signOf_182 rfl (by decide) (by decide) (hQ _ _ ⟨rfl, rfl⟩)
  try simp only [if_neg s_1_48] at hQ
  by_cases s_1_49 : x1 = 49
  · try simp only [if_pos s_1_49] at hQ
    refine ev_tableIn (pc := 1) (tgt := 181) (off := 180) dX7_signOf_1 (by rw [s_1_49]; decide) (by rw [s_1_49]; decide) (by rw [s_1_49]; decide) (by decide) ?_
    refine ev_iconst (pc := 181) (v := 1) dX7_signOf_181 (by decide) ?_
    exact ev_iret (pc := 182) dX7_signOf_182 rfl (by decide) (by decide) (hQ _ _ ⟨rfl, rfl⟩)
  try simp only [if_neg s_1_49] at hQ
  by_cases s_1_50 : x1 = 50
  · try simp only [if_pos s_1_50] at hQ
    refine ev_tableIn (pc := 1) (tgt := 181) (off := 180) dX7_signOf_1 (by rw [s_1_50]; decide) (by rw [s_1_50]; decide) (by rw [s_1_50]; decide) (by decide) ?_
    refine ev_iconst (pc := 181) (v := 1) dX7_signOf_181 (by decide) ?_
    exact ev_iret (pc := 182) dX7_signOf_182 rfl (by decide) (by decide) (hQ _ _ ⟨rfl, rfl⟩)
  try simp only [if_neg s_1_50] at hQ
  by_cases s_1_51 : x1 = 51
  · try simp only [if_pos s_1_51] at hQ
    refine ev_tableIn (pc := 1) (tgt := 181) (off := 180) dX7_signOf_1 (by rw [s_1_51]; decide) (by rw [s_1_51]; decide) (by rw [s_1_51]; decide) (by decide) ?_
    refine ev_iconst (pc := 181) (v := 1) dX7_signOf_181 (by decide) ?_
    exact ev_iret (pc := 182) dX7_signOf_182 rfl (by decide) (by decide) (hQ _ _ ⟨rfl, rfl⟩)
  try simp only [if_neg s_1_51] at hQ
  by_cases s_1_52 : x1 = 52
  · try simp only [if_pos s_1_52] at hQ
    refine ev_tableIn (pc := 1) (tgt := 181) (off := 180) dX7_signOf_1 (by rw [s_1_52]; decide) (by rw [s_1_52]; decide) (by rw [s_1_52]; decide) (by decide) ?_
    refine ev_iconst (pc := 181) (v := 1) dX7_signOf_181 (by decide) ?_
    exact ev_iret (pc := 182) dX7_signOf_182 rfl (by decide) (by decide) (hQ _ _ ⟨rfl, rfl⟩)
  try simp only [if_neg s_1_52] at hQ
  by_cases s_1_53 : x1 = 53
  · try simp only [if_pos s_1_53] at hQ
    refine ev_tableIn (pc := 1) (tgt := 181) (off := 180) dX7_signOf_1 (by rw [s_1_53]; decide) (by rw [s_1_53]; decide) (by rw [s_1_53]; decide) (by decide) ?_
    refine ev_iconst (pc := 181) (v := 1) dX7_signOf_181 (by decide) ?_
    exact ev_iret (pc := 182) dX7_signOf_182 rfl (by decide) (by decide) (hQ _ _ ⟨rfl, rfl⟩)
  try simp only [if_neg s_1_53] at hQ
  by_cases s_1_54 : x1 = 54
  · try simp only [if_pos s_1_54] at hQ
    refine ev_tableIn (pc := 1) (tgt := 181) (off := 180) dX7_signOf_1 (by rw [s_1_54]; decide) (by rw [s_1_54]; decide) (by rw [s_1_54]; decide) (by decide) ?_
    refine ev_iconst (pc := 181) (v := 1) dX7_signOf_181 (by decide) ?_
    exact ev_iret (pc := 182) dX7_signOf_182 rfl (by decide) (by decide) (hQ _ _ ⟨rfl, rfl⟩)
  try simp only [if_neg s_1_54] at hQ
  by_cases s_1_55 : x1 = 55
  · try simp only [if_pos s_1_55] at hQ
    refine ev_tableIn (pc := 1) (tgt := 181) (off := 180) dX7_signOf_1 (by rw [s_1_55]; decide) (by rw [s_1_55]; decide) (by rw [s_1_55]; decide) (by decide) ?_
    refine ev_iconst (pc := 181) (v := 1) dX7_signOf_181 (by decide) ?_
    exact ev_iret (pc := 182) dX7_signOf_182 rfl (by decide) (by decide) (hQ _ _ ⟨rfl, rfl⟩)
  try simp only [if_neg s_1_55] at hQ
  by_cases s_1_56 : x1 = 56
  · try simp only [if_pos s_1_56] at hQ
    refine ev_tableIn (pc := 1) (tgt := 181) (off := 180) dX7_signOf_1 (by rw [s_1_56]; decide) (by rw [s_1_56]; decide) (by rw [s_1_56]; decide) (by decide) ?_
    refine ev_iconst (pc := 181) (v := 1) dX7_signOf_181 (by decide) ?_
    exact ev_iret (pc := 182) dX7_signOf_182 rfl (by decide) (by decide) (hQ _ _ ⟨rfl, rfl⟩)
  try simp only [if_neg s_1_56] at hQ
  by_cases s_1_57 : x1 = 57
  · try simp only [if_pos s_1_57] at hQ
    refine ev_tableIn (pc := 1) (tgt := 181) (off := 180) dX7_signOf_1 (by rw [s_1_57]; decide) (by rw [s_1_57]; decide) (by rw [s_1_57]; decide) (by decide) ?_
    refine ev_iconst (pc := 181) (v := 1) dX7_signOf_181 (by decide) ?_
    exact ev_iret (pc := 182) dX7_signOf_182 rfl (by decide) (by decide) (hQ _ _ ⟨rfl, rfl⟩)
  try simp only [if_neg s_1_57] at hQ
  by_cases s_1_58 : x1 = 58
  · try simp only [if_pos s_1_58] at hQ
    refine ev_tableIn (pc := 1) (tgt := 181) (off := 180) dX7_signOf_1 (by rw [s_1_58]; decide) (by rw [s_1_58]; decide) (by rw [s_1_58]; decide) (by decide) ?_
    refine ev_iconst (pc := 181) (v := 1) dX7_signOf_181 (by decide) ?_
    exact ev_iret (pc := 182) dX7_signOf_182 rfl (by decide) (by decide) (hQ _ _ ⟨rfl, rfl⟩)
  try simp only [if_neg s_1_58] at hQ
  by_cases s_1_59 : x1 = 59
  · try simp only [if_pos s_1_59] at hQ
    refine ev_tableIn (pc := 1) (tgt := 132) (off := 131) dX7_signOf_1 (by rw [s_1_59]; decide) (by rw [s_1_59]; decide) (by rw [s_1_59]; decide) (by decide) ?_
    refine ev_iconst (pc := 132) (v := 3) dX7_signOf_132 (by decide) ?_
    exact ev_iret (pc := 133) dX7_signOf_133 rfl (by decide) (by decide) (hQ _ _ ⟨rfl, rfl⟩)
  try simp only [if_neg s_1_59] at hQ
  by_cases s_1_60 : x1 = 60
  · try simp only [if_pos s_1_60] at hQ
    refine ev_tableIn (pc := 1) (tgt := 147) (off := 146) dX7_signOf_1 (by rw [s_1_60]; decide) (by rw [s_1_60]; decide) (by rw [s_1_60]; decide) (by decide) ?_
    refine ev_iload_n (pc := 147) dX7_signOf_147 rfl ?_
    refine ev_cut (pj := 158) (Lj := [some (.int x1), some (.int x2)]) (stj := [(.int (qs0m148_X7_signOf n I A J t x1 x2))]) (σj := hp g I A J t) ?_ (fun hJ_148 => ?_)
    rotate_left
    · refine ev_if_eq (pc := 148) (tgt := 156) dX7_signOf_148 (by decide) (fun c_148 => ?_) (fun c_148 => ?_)
      · refine ev_bipush (pc := 156) (v := 9) dX7_signOf_156 (by decide) ?_
        simp only [qs0m148_X7_signOf, if_pos c_148] at hJ_148
        exact ev_loc hJ_148 cw_le0
      · refine ev_bipush (pc := 151) (v := 10) dX7_signOf_151 (by decide) ?_
        refine ev_goto (pc := 153) (tgt := 158) dX7_signOf_153 (by decide) ?_
        simp only [qs0m148_X7_signOf, if_neg c_148] at hJ_148
        exact ev_loc hJ_148 cw_le0
    exact ev_iret (pc := 158) dX7_signOf_158 rfl (by decide) (by decide) (hQ _ _ ⟨rfl, rfl⟩)
  try simp only [if_neg s_1_60] at hQ
  by_cases s_1_61 : x1 = 61
  · try simp only [if_pos s_1_61] at hQ
    refine ev_tableIn (pc := 1) (tgt := 159) (off := 158) dX7_signOf_1 (by rw [s_1_61]; decide) (by rw [s_1_61]; decide) (by rw [s_1_61]; decide) (by decide) ?_
    refine ev_iload_n (pc := 159) dX7_signOf_159 rfl ?_
    refine ev_cut (pj := 169) (Lj := [some (.int x1), some (.int x2)]) (stj := [(.int (qs0m160_X7_signOf n I A J t x1 x2))]) (σj := hp g I A J t) ?_ (fun hJ_160 => ?_)
    rotate_left
    · refine ev_if_eq (pc := 160) (tgt := 168) dX7_signOf_160 (by decide) (fun c_160 => ?_) (fun c_160 => ?_)
      · refine ev_iconst (pc := 168) (v := 1) dX7_signOf_168 (by decide) ?_
        simp only [qs0m160_X7_signOf, if_pos c_160] at hJ_160
        exact ev_loc hJ_160 cw_le0
      · refine ev_bipush (pc := 163) (v := 7) dX7_signOf_163 (by decide) ?_
        refine ev_goto (pc := 165) (tgt := 169) dX7_signOf_165 (by decide) ?_
        simp only [qs0m160_X7_signOf, if_neg c_160] at hJ_160
        exact ev_loc hJ_160 cw_le0
    exact ev_iret (pc := 169) dX7_signOf_169 rfl (by decide) (by decide) (hQ _ _ ⟨rfl, rfl⟩)
  try simp only [if_neg s_1_61] at hQ
  refine ev_tableOut (pc := 1) (tgt := 181) dX7_signOf_1 (by simp only [← Int32.toInt_inj, Int32.reduceToInt] at s_1_33 s_1_34 s_1_35 s_1_36 s_1_37 s_1_38 s_1_39 s_1_40 s_1_41 s_1_42 s_1_43 s_1_44 s_1_45 s_1_46 s_1_47 s_1_48 s_1_49 s_1_50 s_1_51 s_1_52 s_1_53 s_1_54 s_1_55 s_1_56 s_1_57 s_1_58 s_1_59 s_1_60 s_1_61; omega) (by decide) ?_
  refine ev_iconst (pc := 181) (v := 1) dX7_signOf_181 (by decide) ?_
  exact ev_iret (pc := 182) dX7_signOf_182 rfl (by decide) (by decide) (hQ _ _ ⟨rfl, rfl⟩)

def qI12_X7_start_34_32 (n : Nat) (I : Nat → Nat → Int32) (A : Nat → Nat → Int32) (J : Nat → Nat → Int64) (t : Bool × Bool) (x1 : Int32) : Nat → Nat → Int32 := cw_u I 34 1 (px_J9_min_7cf53 n I A J (t.1, true) x1 (nI 2000))
def qI17_X7_start_34_32 (n : Nat) (I : Nat → Nat → Int32) (A : Nat → Nat → Int32) (J : Nat → Nat → Int64) (t : Bool × Bool) (x1 : Int32) : Nat → Nat → Int32 := cw_u (qI12_X7_start_34_32 n I A J t x1) 34 2 0
def pI_X7_start_34_32 (n : Nat) (I : Nat → Nat → Int32) (A : Nat → Nat → Int32) (J : Nat → Nat → Int64) (t : Bool × Bool) (x1 : Int32) : Nat → Nat → Int32 := (qI17_X7_start_34_32 n I A J t x1)
set_option maxRecDepth 100000 in
set_option maxHeartbeats 4000000 in
theorem cv_X7_start_34_32 (g : cw_G) (n : Nat) (I : Nat → Nat → Int32) (A : Nat → Nat → Int32) (J : Nat → Nat → Int64) (t : Bool × Bool) (x1 : Int32) : Cd g mX7_start [(.ref (cw_z g + 34)), (.ref (cw_z g + 32)), (.int x1)] (hp g I A J t) none (hp g (pI_X7_start_34_32 n I A J t x1) A J (t.1, true)) := by
  unfold pI_X7_start_34_32
  refine Cd.of rfl (Nat.le_of_ble_eq_true rfl) (ev_gen (fun Q hQ => ?_))
  refine ev_aload_n (pc := 0) dX7_start_0 rfl ?_
  refine ev_aload_n (pc := 1) dX7_start_1 rfl ?_
  refine tw_text (pc := 2) (t := t) dX7_start_2 fp_X7_9 ?_
  refine ev_aload_n (pc := 5) dX7_start_5 rfl ?_
  refine ev_iload_n (pc := 6) dX7_start_6 rfl ?_
  refine ev_aload_n (pc := 7) dX7_start_7 rfl ?_
  refine ev_alen (pc := 8) dX7_start_8 (show 32 < 120 by decide) rfl (by decide) ?_
  refine ev_Si (pc := 9) dX7_start_9 lk_X7_31 cd_J9_min_7cf53 ar_J9_min_7cf53 ⟨by decide, rfl, rfl⟩ (cv_J9_min_7cf53 g n I A J (t.1, true) x1 (nI 2000)) rfl rfl (Nat.le_of_ble_eq_true rfl) ⟨by decide, by decide⟩ ?_
  refine tw_puti (pc := 12) (I2 := (qI12_X7_start_34_32 n I A J t x1)) dX7_start_12 fp_X7_15 (by decide) rfl rfl rfl ?_
  refine ev_aload_n (pc := 15) dX7_start_15 rfl ?_
  refine ev_iconst (pc := 16) (v := 0) dX7_start_16 (by decide) ?_
  refine tw_puti (pc := 17) (I2 := (qI17_X7_start_34_32 n I A J t x1)) dX7_start_17 fp_X7_19 (by decide) rfl rfl rfl ?_
  exact ev_vret (pc := 20) dX7_start_20 rfl (by decide) (by decide) (hQ _ _ ⟨rfl, rfl⟩)

def q4_X7_behindBlanks_34_txT (n : Nat) (I : Nat → Nat → Int32) (A : Nat → Nat → Int32) (J : Nat → Nat → Int64) (t : Bool × Bool) : Int32 := (I 34 2)
def q25_X7_behindBlanks_34_txT (n : Nat) (I : Nat → Nat → Int32) (A : Nat → Nat → Int32) (J : Nat → Nat → Int64) (t : Bool × Bool) (v5_1 : Int32) : Int32 := v5_1 + 1
def lp_X7_behindBlanks_34_txT_5 (n : Nat) (I : Nat → Nat → Int32) (A : Nat → Nat → Int32) (J : Nat → Nat → Int64) (t : Bool × Bool) : Nat → (Int32) → Int32
  | 0, v5_1 => (v5_1)
  | f + 1, v5_1 => if (I 34 1) ≤ v5_1 then (v5_1) else if (px_X7_isBlank n I A J (t.1, true) (A 32 (v5_1).toNatClampNeg)) = 0 then (v5_1) else lp_X7_behindBlanks_34_txT_5 n I A J t f (q25_X7_behindBlanks_34_txT n I A J t v5_1)
def lb_X7_behindBlanks_34_txT_5 (n : Nat) (I : Nat → Nat → Int32) (A : Nat → Nat → Int32) (J : Nat → Nat → Int64) (t : Bool × Bool) : Nat → (Int32) → Prop
  | 0, _ => False
  | f + 1, v5_1 => (¬ (I 34 1) ≤ v5_1 → vp_in v5_1 2000 ∧ (¬ (px_X7_isBlank n I A J (t.1, true) (A 32 (v5_1).toNatClampNeg)) = 0 → lb_X7_behindBlanks_34_txT_5 n I A J t f (q25_X7_behindBlanks_34_txT n I A J t v5_1)))
def q1w5_X7_behindBlanks_34_txT (n : Nat) (I : Nat → Nat → Int32) (A : Nat → Nat → Int32) (J : Nat → Nat → Int64) (t : Bool × Bool) : Int32 := (lp_X7_behindBlanks_34_txT_5 n I A J t n (q4_X7_behindBlanks_34_txT n I A J t))
def pb_X7_behindBlanks_34_txT (n : Nat) (I : Nat → Nat → Int32) (A : Nat → Nat → Int32) (J : Nat → Nat → Int64) (t : Bool × Bool) : Prop := lb_X7_behindBlanks_34_txT_5 n I A J t n (q4_X7_behindBlanks_34_txT n I A J t)
def px_X7_behindBlanks_34_txT (n : Nat) (I : Nat → Nat → Int32) (A : Nat → Nat → Int32) (J : Nat → Nat → Int64) (t : Bool × Bool) : Int32 := (q1w5_X7_behindBlanks_34_txT n I A J t)
set_option maxRecDepth 100000 in
set_option maxHeartbeats 4000000 in
theorem lt_X7_behindBlanks_34_txT_5 (g : cw_G) (n : Nat) (I : Nat → Nat → Int32) (A : Nat → Nat → Int32) (J : Nat → Nat → Int64) (t : Bool × Bool) {Q : Option Value → cw_H → Prop} : ∀ (f : Nat) (v5_1 : Int32) (w0 : Int32), lb_X7_behindBlanks_34_txT_5 n I A J t f v5_1 → (lp_X7_behindBlanks_34_txT_5 n I A J t f v5_1) = w0 → Ev g mX7_behindBlanks 0 0 31 [some (.ref (cw_z g + 34)), some (.int w0)] [] (hp g I A J (t.1, true)) Q → Ev g mX7_behindBlanks 0 0 5 [some (.ref (cw_z g + 34)), some (.int v5_1)] [] (hp g I A J (t.1, true)) Q := by
  intro f
  induction f with
  | zero =>
    intro v5_1 w0 hb
    exact hb.elim
  | succ f ih =>
    intro v5_1 w0 hb h0 hE
    rw [lb_X7_behindBlanks_34_txT_5] at hb
    rw [lp_X7_behindBlanks_34_txT_5] at h0
    refine ev_iload_n (pc := 5) dX7_behindBlanks_5 rfl ?_
    refine ev_aload_n (pc := 6) dX7_behindBlanks_6 rfl ?_
    refine tv_geti (pc := 7) dX7_behindBlanks_7 fl_X7_15 (by decide) rfl rfl ?_
    have hF_10 := hb
    refine ev_icmp_ge (pc := 10) (tgt := 31) dX7_behindBlanks_10 (by decide) (fun c_10 => ?_) (fun c_10 => ?_)
    · try simp only [if_pos c_10] at h0
      subst h0
      exact ev_loc hE cw_le0
    · have hb := hF_10 c_10
      try simp only [if_neg c_10] at h0
      refine ev_aload_n (pc := 13) dX7_behindBlanks_13 rfl ?_
      refine tv_getr (pc := 14) (d := 32) dX7_behindBlanks_14 fl_X7_9 (by decide) rfl rfl ?_
      refine ev_iload_n (pc := 17) dX7_behindBlanks_17 rfl ?_
      refine ev_bald (pc := 18) dX7_behindBlanks_18 (by decide) rfl hb.1 ?_
      replace hb := hb.2
      refine ev_Si (pc := 19) dX7_behindBlanks_19 lk_X7_57 cd_X7_isBlank ar_X7_isBlank ⟨by decide, rfl, rfl⟩ (cv_X7_isBlank g n I A J (t.1, true) (A 32 (v5_1).toNatClampNeg)) rfl rfl (Nat.le_of_ble_eq_true rfl) ⟨by decide, by decide⟩ ?_
      have hF_22 := hb
      refine ev_if_eq (pc := 22) (tgt := 31) dX7_behindBlanks_22 (by decide) (fun c_22 => ?_) (fun c_22 => ?_)
      · try simp only [if_pos c_22] at h0
        subst h0
        exact ev_loc hE cw_le0
      · have hb := hF_22 c_22
        try simp only [if_neg c_22] at h0
        refine ev_iinc_1 (pc := 25) (v := (q25_X7_behindBlanks_34_txT n I A J t v5_1)) dX7_behindBlanks_25 (by decide) rfl rfl ?_
        refine ev_goto (pc := 28) (tgt := 5) dX7_behindBlanks_28 (by decide) ?_
        exact ev_loc (ih (q25_X7_behindBlanks_34_txT n I A J t v5_1) w0 hb h0 hE) cw_le0

set_option maxRecDepth 100000 in
set_option maxHeartbeats 4000000 in
theorem cv_X7_behindBlanks_34_txT (g : cw_G) (n : Nat) (I : Nat → Nat → Int32) (A : Nat → Nat → Int32) (J : Nat → Nat → Int64) (t : Bool × Bool) (hb : pb_X7_behindBlanks_34_txT n I A J t) : Cd g mX7_behindBlanks [(.ref (cw_z g + 34))] (hp g I A J (t.1, true)) (some (.int (px_X7_behindBlanks_34_txT n I A J t))) (hp g I A J (t.1, true)) := by
  unfold pb_X7_behindBlanks_34_txT at hb
  unfold px_X7_behindBlanks_34_txT
  refine Cd.of rfl (Nat.le_of_ble_eq_true rfl) (ev_gen (fun Q hQ => ?_))
  refine ev_aload_n (pc := 0) dX7_behindBlanks_0 rfl ?_
  refine tv_geti (pc := 1) dX7_behindBlanks_1 fl_X7_19 (by decide) rfl rfl ?_
  refine ev_is (y := (q4_X7_behindBlanks_34_txT n I A J t)) rfl ?_
  refine ev_istore_1 (pc := 4) dX7_behindBlanks_4 (by decide) rfl ?_
  refine lt_X7_behindBlanks_34_txT_5 g n I A J t n (q4_X7_behindBlanks_34_txT n I A J t) (q1w5_X7_behindBlanks_34_txT n I A J t) hb rfl ?_
  refine ev_iload_n (pc := 31) dX7_behindBlanks_31 rfl ?_
  exact ev_iret (pc := 32) dX7_behindBlanks_32 rfl (by decide) (by decide) (hQ _ _ ⟨rfl, rfl⟩)

def qs0m18_X7_isWord_34_txT (n : Nat) (I : Nat → Nat → Int32) (A : Nat → Nat → Int32) (J : Nat → Nat → Int64) (t : Bool × Bool) (x1 : Int32) (v2_2 : Int32) : Int32 := if (I 34 2) ≤ ((I 34 4) + v2_2) then 32 else (A 32 (((I 34 4) + v2_2)).toNatClampNeg)
def q55_X7_isWord_34_txT (n : Nat) (I : Nat → Nat → Int32) (A : Nat → Nat → Int32) (J : Nat → Nat → Int64) (t : Bool × Bool) (x1 : Int32) (v2_2 : Int32) : Int32 := v2_2 + 1
def lp_X7_isWord_34_txT_2 (n : Nat) (I : Nat → Nat → Int32) (A : Nat → Nat → Int32) (J : Nat → Nat → Int64) (t : Bool × Bool) (x1 : Int32) : Nat → (Int32) → Int32
  | 0, v2_2 => (0)
  | f + 1, v2_2 => if 8 ≤ v2_2 then (1) else if (cw_ch ((x1 * 8) + v2_2)) = (qs0m18_X7_isWord_34_txT n I A J t x1 v2_2) then lp_X7_isWord_34_txT_2 n I A J t x1 f (q55_X7_isWord_34_txT n I A J t x1 v2_2) else (0)
def lb_X7_isWord_34_txT_2 (n : Nat) (I : Nat → Nat → Int32) (A : Nat → Nat → Int32) (J : Nat → Nat → Int64) (t : Bool × Bool) (x1 : Int32) : Nat → (Int32) → Prop
  | 0, _ => False
  | f + 1, v2_2 => (¬ 8 ≤ v2_2 → (¬ (I 34 2) ≤ ((I 34 4) + v2_2) → vp_in ((I 34 4) + v2_2) 2000) ∧ vp_in ((x1 * 8) + v2_2) 120 ∧ ((cw_ch ((x1 * 8) + v2_2)) = (qs0m18_X7_isWord_34_txT n I A J t x1 v2_2) → lb_X7_isWord_34_txT_2 n I A J t x1 f (q55_X7_isWord_34_txT n I A J t x1 v2_2)))
def pb_X7_isWord_34_txT (n : Nat) (I : Nat → Nat → Int32) (A : Nat → Nat → Int32) (J : Nat → Nat → Int64) (t : Bool × Bool) (x1 : Int32) : Prop := lb_X7_isWord_34_txT_2 n I A J t x1 n 0
def px_X7_isWord_34_txT (n : Nat) (I : Nat → Nat → Int32) (A : Nat → Nat → Int32) (J : Nat → Nat → Int64) (t : Bool × Bool) (x1 : Int32) : Int32 := (lp_X7_isWord_34_txT_2 n I A J t x1 n 0)
set_option maxRecDepth 100000 in
set_option maxHeartbeats 4000000 in
theorem lt_X7_isWord_34_txT_2 (g : cw_G) (n : Nat) (I : Nat → Nat → Int32) (A : Nat → Nat → Int32) (J : Nat → Nat → Int64) (t : Bool × Bool) (x1 : Int32) : ∀ (f : Nat) (v2_2 : Int32), lb_X7_isWord_34_txT_2 n I A J t x1 f v2_2 → Ev g mX7_isWord 0 0 2 [some (.ref (cw_z g + 34)), some (.int x1), some (.int v2_2), none] [] (hp g I A J (t.1, true)) (fun r2 τ2 => r2 = some (.int (lp_X7_isWord_34_txT_2 n I A J t x1 f v2_2)) ∧ τ2 = (hp g I A J (t.1, true))) := by
  intro f
  induction f with
  | zero =>
    intro v2_2 hb
    exact hb.elim
  | succ f ih =>
    intro v2_2 hb
    rw [lb_X7_isWord_34_txT_2] at hb
    refine ev_gen (fun Q hQ => ?_)
    rw [lp_X7_isWord_34_txT_2] at hQ
    refine ev_iload_n (pc := 2) dX7_isWord_2 rfl ?_
    refine ev_bipush (pc := 3) (v := 8) dX7_isWord_3 (by decide) ?_
    have hF_5 := hb
    refine ev_icmp_ge (pc := 5) (tgt := 61) dX7_isWord_5 (by decide) (fun c_5 => ?_) (fun c_5 => ?_)
    · try simp only [if_pos c_5] at hQ
      refine ev_iconst (pc := 61) (v := 1) dX7_isWord_61 (by decide) ?_
      exact ev_zret (pc := 62) dX7_isWord_62 rfl rfl (by decide) (by decide) (hQ _ _ ⟨rfl, rfl⟩)
    · have hb := hF_5 c_5
      try simp only [if_neg c_5] at hQ
      refine ev_aload_n (pc := 8) dX7_isWord_8 rfl ?_
      refine tv_geti (pc := 9) dX7_isWord_9 fl_X7_25 (by decide) rfl rfl ?_
      refine ev_iload_n (pc := 12) dX7_isWord_12 rfl ?_
      refine ev_iadd (pc := 13) dX7_isWord_13 ?_
      refine ev_aload_n (pc := 14) dX7_isWord_14 rfl ?_
      refine tv_geti (pc := 15) dX7_isWord_15 fl_X7_19 (by decide) rfl rfl ?_
      obtain ⟨hF_18, hb⟩ := hb
      refine ev_cut (pj := 37) (Lj := [some (.ref (cw_z g + 34)), some (.int x1), some (.int v2_2), none]) (stj := [(.int (qs0m18_X7_isWord_34_txT n I A J t x1 v2_2))]) (σj := hp g I A J (t.1, true)) ?_ (fun hJ_18 => ?_)
      rotate_left
      · refine ev_icmp_ge (pc := 18) (tgt := 35) dX7_isWord_18 (by decide) (fun c_18 => ?_) (fun c_18 => ?_)
        · refine ev_bipush (pc := 35) (v := 32) dX7_isWord_35 (by decide) ?_
          simp only [qs0m18_X7_isWord_34_txT, if_pos c_18] at hJ_18
          exact ev_loc hJ_18 cw_le0
        · have hb := hF_18 c_18
          refine ev_aload_n (pc := 21) dX7_isWord_21 rfl ?_
          refine tv_getr (pc := 22) (d := 32) dX7_isWord_22 fl_X7_9 (by decide) rfl rfl ?_
          refine ev_aload_n (pc := 25) dX7_isWord_25 rfl ?_
          refine tv_geti (pc := 26) dX7_isWord_26 fl_X7_25 (by decide) rfl rfl ?_
          refine ev_iload_n (pc := 29) dX7_isWord_29 rfl ?_
          refine ev_iadd (pc := 30) dX7_isWord_30 ?_
          refine ev_bald (pc := 31) dX7_isWord_31 (by decide) rfl hb ?_
          refine ev_goto (pc := 32) (tgt := 37) dX7_isWord_32 (by decide) ?_
          simp only [qs0m18_X7_isWord_34_txT, if_neg c_18] at hJ_18
          exact ev_loc hJ_18 cw_le0
      refine ev_istore_3 (pc := 37) dX7_isWord_37 (by decide) rfl ?_
      refine ev_ldcS (pc := 38) dX7_isWord_38 rfl ?_
      refine ev_iload_n (pc := 40) dX7_isWord_40 rfl ?_
      refine ev_bipush (pc := 41) (v := 8) dX7_isWord_41 (by decide) ?_
      refine ev_imul (pc := 43) dX7_isWord_43 ?_
      refine ev_iload_n (pc := 44) dX7_isWord_44 rfl ?_
      refine ev_iadd (pc := 45) dX7_isWord_45 ?_
      refine ev_VS (pc := 46) dX7_isWord_46 lk_X7_69 cd_J0_charAt_5068e ar_J0_charAt_5068e ⟨by decide, rfl, rfl⟩ rfl (cv_scharAt g _ ((x1 * 8) + v2_2) hb.1) rfl rfl (Nat.le_of_ble_eq_true rfl) ⟨by decide, by decide⟩ ?_
      replace hb := hb.2
      refine ev_iload_n (pc := 49) dX7_isWord_49 rfl ?_
      have hT_50 := hb
      refine ev_icmp_eq (pc := 50) (tgt := 55) dX7_isWord_50 (by decide) (fun c_50 => ?_) (fun c_50 => ?_)
      · have hb := hT_50 c_50
        try simp only [if_pos c_50] at hQ
        refine ev_iinc_2 (pc := 55) (v := (q55_X7_isWord_34_txT n I A J t x1 v2_2)) dX7_isWord_55 (by decide) rfl rfl ?_
        refine ev_goto (pc := 58) (tgt := 2) dX7_isWord_58 (by decide) ?_
        exact ev_mono (ev_loc (ih (q55_X7_isWord_34_txT n I A J t x1 v2_2) hb) (cw_leS (cw_leS (cw_leS (cw_leN cw_le0))))) hQ
      · try simp only [if_neg c_50] at hQ
        refine ev_iconst (pc := 53) (v := 0) dX7_isWord_53 (by decide) ?_
        exact ev_zret (pc := 54) dX7_isWord_54 rfl rfl (by decide) (by decide) (hQ _ _ ⟨rfl, rfl⟩)

set_option maxRecDepth 100000 in
set_option maxHeartbeats 4000000 in
theorem cv_X7_isWord_34_txT (g : cw_G) (n : Nat) (I : Nat → Nat → Int32) (A : Nat → Nat → Int32) (J : Nat → Nat → Int64) (t : Bool × Bool) (x1 : Int32) (hb : pb_X7_isWord_34_txT n I A J t x1) : Cd g mX7_isWord [(.ref (cw_z g + 34)), (.int x1)] (hp g I A J (t.1, true)) (some (.int (px_X7_isWord_34_txT n I A J t x1))) (hp g I A J (t.1, true)) := by
  unfold pb_X7_isWord_34_txT at hb
  unfold px_X7_isWord_34_txT
  refine Cd.of rfl (Nat.le_of_ble_eq_true rfl) (ev_gen (fun Q hQ => ?_))
  refine ev_iconst (pc := 0) (v := 0) dX7_isWord_0 (by decide) ?_
  refine ev_istore_2 (pc := 1) dX7_isWord_1 (by decide) rfl ?_
  exact ev_mono (ev_loc (lt_X7_isWord_34_txT_2 g n I A J t x1 n 0 hb) cw_le0) hQ

def qI33_X7_scanWord_34_txT (n : Nat) (I : Nat → Nat → Int32) (A : Nat → Nat → Int32) (J : Nat → Nat → Int64) (t : Bool × Bool) (I0 : Nat → Nat → Int32) : Nat → Nat → Int32 := cw_u I0 34 2 ((I0 34 2) + 1)
def lp_X7_scanWord_34_txT_0 (n : Nat) (I : Nat → Nat → Int32) (A : Nat → Nat → Int32) (J : Nat → Nat → Int64) (t : Bool × Bool) : Nat → (Nat → Nat → Int32) → (Nat → Nat → Int32)
  | 0, I0 => (I0)
  | f + 1, I0 => if (I0 34 1) ≤ (I0 34 2) then (I0) else if (px_X7_isLetter n I0 A J (t.1, true) (A 32 ((I0 34 2)).toNatClampNeg)) = 0 then (I0) else lp_X7_scanWord_34_txT_0 n I A J t f (qI33_X7_scanWord_34_txT n I A J t I0)
def lb_X7_scanWord_34_txT_0 (n : Nat) (I : Nat → Nat → Int32) (A : Nat → Nat → Int32) (J : Nat → Nat → Int64) (t : Bool × Bool) : Nat → (Nat → Nat → Int32) → Prop
  | 0, _ => False
  | f + 1, I0 => (¬ (I0 34 1) ≤ (I0 34 2) → vp_in (I0 34 2) 2000 ∧ (¬ (px_X7_isLetter n I0 A J (t.1, true) (A 32 ((I0 34 2)).toNatClampNeg)) = 0 → lb_X7_scanWord_34_txT_0 n I A J t f (qI33_X7_scanWord_34_txT n I A J t I0)))
def qIw0_X7_scanWord_34_txT (n : Nat) (I : Nat → Nat → Int32) (A : Nat → Nat → Int32) (J : Nat → Nat → Int64) (t : Bool × Bool) : Nat → Nat → Int32 := (lp_X7_scanWord_34_txT_0 n I A J t n I)
def qI41_X7_scanWord_34_txT (n : Nat) (I : Nat → Nat → Int32) (A : Nat → Nat → Int32) (J : Nat → Nat → Int64) (t : Bool × Bool) : Nat → Nat → Int32 := cw_u (qIw0_X7_scanWord_34_txT n I A J t) 34 3 1
def qs1m86_X7_scanWord_34_txT (n : Nat) (I : Nat → Nat → Int32) (A : Nat → Nat → Int32) (J : Nat → Nat → Int64) (t : Bool × Bool) (I60 : Nat → Nat → Int32) (v60_1 : Int32) : Int32 := if (px_X7_isWord_34_txT n I60 A J (t.1, true) v60_1) = 0 then 1 else ((13 : Int32) + v60_1)
def qI97_X7_scanWord_34_txT (n : Nat) (I : Nat → Nat → Int32) (A : Nat → Nat → Int32) (J : Nat → Nat → Int64) (t : Bool × Bool) (I60 : Nat → Nat → Int32) (v60_1 : Int32) : Nat → Nat → Int32 := cw_u I60 34 3 (qs1m86_X7_scanWord_34_txT n I A J t I60 v60_1)
def q100_X7_scanWord_34_txT (n : Nat) (I : Nat → Nat → Int32) (A : Nat → Nat → Int32) (J : Nat → Nat → Int64) (t : Bool × Bool) (I60 : Nat → Nat → Int32) (v60_1 : Int32) : Int32 := v60_1 + 1
def lp_X7_scanWord_34_txT_60 (n : Nat) (I : Nat → Nat → Int32) (A : Nat → Nat → Int32) (J : Nat → Nat → Int64) (t : Bool × Bool) : Nat → (Nat → Nat → Int32) → (Int32) → (Nat → Nat → Int32) × Int32
  | 0, I60, v60_1 => (I60, v60_1)
  | f + 1, I60, v60_1 => if 120 ≤ (v60_1 * 8) then (I60, v60_1) else if (I60 34 3) = 1 then lp_X7_scanWord_34_txT_60 n I A J t f (qI97_X7_scanWord_34_txT n I A J t I60 v60_1) (q100_X7_scanWord_34_txT n I A J t I60 v60_1) else (I60, v60_1)
def lb_X7_scanWord_34_txT_60 (n : Nat) (I : Nat → Nat → Int32) (A : Nat → Nat → Int32) (J : Nat → Nat → Int64) (t : Bool × Bool) : Nat → (Nat → Nat → Int32) → (Int32) → Prop
  | 0, _, _ => False
  | f + 1, I60, v60_1 => (¬ 120 ≤ (v60_1 * 8) → ((I60 34 3) = 1 → pb_X7_isWord_34_txT n I60 A J (t.1, true) v60_1 ∧ lb_X7_scanWord_34_txT_60 n I A J t f (qI97_X7_scanWord_34_txT n I A J t I60 v60_1) (q100_X7_scanWord_34_txT n I A J t I60 v60_1)))
def qIw60_X7_scanWord_34_txT (n : Nat) (I : Nat → Nat → Int32) (A : Nat → Nat → Int32) (J : Nat → Nat → Int64) (t : Bool × Bool) : Nat → Nat → Int32 := (lp_X7_scanWord_34_txT_60 n I A J t n (qI41_X7_scanWord_34_txT n I A J t) 0).1
def q1w60_X7_scanWord_34_txT (n : Nat) (I : Nat → Nat → Int32) (A : Nat → Nat → Int32) (J : Nat → Nat → Int64) (t : Bool × Bool) : Int32 := (lp_X7_scanWord_34_txT_60 n I A J t n (qI41_X7_scanWord_34_txT n I A J t) 0).2
def qIm55_X7_scanWord_34_txT (n : Nat) (I : Nat → Nat → Int32) (A : Nat → Nat → Int32) (J : Nat → Nat → Int64) (t : Bool × Bool) : Nat → Nat → Int32 := if 8 < (((qI41_X7_scanWord_34_txT n I A J t) 34 2) - ((qI41_X7_scanWord_34_txT n I A J t) 34 4)) then (qI41_X7_scanWord_34_txT n I A J t) else (qIw60_X7_scanWord_34_txT n I A J t)
def pb_X7_scanWord_34_txT (n : Nat) (I : Nat → Nat → Int32) (A : Nat → Nat → Int32) (J : Nat → Nat → Int64) (t : Bool × Bool) : Prop := lb_X7_scanWord_34_txT_0 n I A J t n I ∧ (¬ 8 < (((qI41_X7_scanWord_34_txT n I A J t) 34 2) - ((qI41_X7_scanWord_34_txT n I A J t) 34 4)) → lb_X7_scanWord_34_txT_60 n I A J t n (qI41_X7_scanWord_34_txT n I A J t) 0)
def pI_X7_scanWord_34_txT (n : Nat) (I : Nat → Nat → Int32) (A : Nat → Nat → Int32) (J : Nat → Nat → Int64) (t : Bool × Bool) : Nat → Nat → Int32 := (qIm55_X7_scanWord_34_txT n I A J t)
set_option maxRecDepth 100000 in
set_option maxHeartbeats 4000000 in
theorem lt_X7_scanWord_34_txT_0 (g : cw_G) (n : Nat) (I : Nat → Nat → Int32) (A : Nat → Nat → Int32) (J : Nat → Nat → Int64) (t : Bool × Bool) {Q : Option Value → cw_H → Prop} : ∀ (f : Nat) (I0 : Nat → Nat → Int32) (w0 : Nat → Nat → Int32), lb_X7_scanWord_34_txT_0 n I A J t f I0 → (lp_X7_scanWord_34_txT_0 n I A J t f I0) = w0 → Ev g mX7_scanWord 0 0 39 [some (.ref (cw_z g + 34)), none] [] (hp g w0 A J (t.1, true)) Q → Ev g mX7_scanWord 0 0 0 [some (.ref (cw_z g + 34)), none] [] (hp g I0 A J (t.1, true)) Q := by
  intro f
  induction f with
  | zero =>
    intro I0 w0 hb
    exact hb.elim
  | succ f ih =>
    intro I0 w0 hb h0 hE
    rw [lb_X7_scanWord_34_txT_0] at hb
    rw [lp_X7_scanWord_34_txT_0] at h0
    refine ev_aload_n (pc := 0) dX7_scanWord_0 rfl ?_
    refine tv_geti (pc := 1) dX7_scanWord_1 fl_X7_19 (by decide) rfl rfl ?_
    refine ev_aload_n (pc := 4) dX7_scanWord_4 rfl ?_
    refine tv_geti (pc := 5) dX7_scanWord_5 fl_X7_15 (by decide) rfl rfl ?_
    have hF_8 := hb
    refine ev_icmp_ge (pc := 8) (tgt := 39) dX7_scanWord_8 (by decide) (fun c_8 => ?_) (fun c_8 => ?_)
    · try simp only [if_pos c_8] at h0
      subst h0
      exact ev_loc hE cw_le0
    · have hb := hF_8 c_8
      try simp only [if_neg c_8] at h0
      refine ev_aload_n (pc := 11) dX7_scanWord_11 rfl ?_
      refine tv_getr (pc := 12) (d := 32) dX7_scanWord_12 fl_X7_9 (by decide) rfl rfl ?_
      refine ev_aload_n (pc := 15) dX7_scanWord_15 rfl ?_
      refine tv_geti (pc := 16) dX7_scanWord_16 fl_X7_19 (by decide) rfl rfl ?_
      refine ev_bald (pc := 19) dX7_scanWord_19 (by decide) rfl hb.1 ?_
      replace hb := hb.2
      refine ev_Si (pc := 20) dX7_scanWord_20 lk_X7_41 cd_X7_isLetter ar_X7_isLetter ⟨by decide, rfl, rfl⟩ (cv_X7_isLetter g n I0 A J (t.1, true) (A 32 ((I0 34 2)).toNatClampNeg)) rfl rfl (Nat.le_of_ble_eq_true rfl) ⟨by decide, by decide⟩ ?_
      have hF_23 := hb
      refine ev_if_eq (pc := 23) (tgt := 39) dX7_scanWord_23 (by decide) (fun c_23 => ?_) (fun c_23 => ?_)
      · try simp only [if_pos c_23] at h0
        subst h0
        exact ev_loc hE cw_le0
      · have hb := hF_23 c_23
        try simp only [if_neg c_23] at h0
        refine ev_aload_n (pc := 26) dX7_scanWord_26 rfl ?_
        refine ev_dup (pc := 27) dX7_scanWord_27 rfl ?_
        refine tv_geti (pc := 28) dX7_scanWord_28 fl_X7_19 (by decide) rfl rfl ?_
        refine ev_iconst (pc := 31) (v := 1) dX7_scanWord_31 (by decide) ?_
        refine ev_iadd (pc := 32) dX7_scanWord_32 ?_
        refine tw_puti (pc := 33) (I2 := (qI33_X7_scanWord_34_txT n I A J t I0)) dX7_scanWord_33 fp_X7_19 (by decide) rfl rfl rfl ?_
        refine ev_goto (pc := 36) (tgt := 0) dX7_scanWord_36 (by decide) ?_
        exact ev_loc (ih (qI33_X7_scanWord_34_txT n I A J t I0) w0 hb h0 hE) cw_le0

set_option maxRecDepth 100000 in
set_option maxHeartbeats 4000000 in
theorem lt_X7_scanWord_34_txT_60 (g : cw_G) (n : Nat) (I : Nat → Nat → Int32) (A : Nat → Nat → Int32) (J : Nat → Nat → Int64) (t : Bool × Bool) {Q : Option Value → cw_H → Prop} : ∀ (f : Nat) (I60 : Nat → Nat → Int32) (v60_1 : Int32) (w0 : Nat → Nat → Int32) (w1 : Int32), lb_X7_scanWord_34_txT_60 n I A J t f I60 v60_1 → (lp_X7_scanWord_34_txT_60 n I A J t f I60 v60_1).1 = w0 → (lp_X7_scanWord_34_txT_60 n I A J t f I60 v60_1).2 = w1 → Ev g mX7_scanWord 0 0 106 [some (.ref (cw_z g + 34)), some (.int w1)] [] (hp g w0 A J (t.1, true)) Q → Ev g mX7_scanWord 0 0 60 [some (.ref (cw_z g + 34)), some (.int v60_1)] [] (hp g I60 A J (t.1, true)) Q := by
  intro f
  induction f with
  | zero =>
    intro I60 v60_1 w0 w1 hb
    exact hb.elim
  | succ f ih =>
    intro I60 v60_1 w0 w1 hb h0 h1 hE
    rw [lb_X7_scanWord_34_txT_60] at hb
    rw [lp_X7_scanWord_34_txT_60] at h0 h1
    refine ev_iload_n (pc := 60) dX7_scanWord_60 rfl ?_
    refine ev_bipush (pc := 61) (v := 8) dX7_scanWord_61 (by decide) ?_
    refine ev_imul (pc := 63) dX7_scanWord_63 ?_
    refine ev_ldcS (pc := 64) dX7_scanWord_64 rfl ?_
    refine ev_VS (pc := 66) dX7_scanWord_66 lk_X7_62 cd_J0_length_8abf5 ar_J0_length_8abf5 ⟨by decide, rfl, rfl⟩ rfl (cv_slength g _) rfl rfl (Nat.le_of_ble_eq_true rfl) ⟨by decide, by decide⟩ ?_
    have hF_69 := hb
    refine ev_icmp_ge (pc := 69) (tgt := 106) dX7_scanWord_69 (by decide) (fun c_69 => ?_) (fun c_69 => ?_)
    · try simp only [if_pos c_69] at h0
      try simp only [if_pos c_69] at h1
      subst h0
      subst h1
      exact ev_loc hE cw_le0
    · have hb := hF_69 c_69
      try simp only [if_neg c_69] at h0
      try simp only [if_neg c_69] at h1
      refine ev_aload_n (pc := 72) dX7_scanWord_72 rfl ?_
      refine tv_geti (pc := 73) dX7_scanWord_73 fl_X7_22 (by decide) rfl rfl ?_
      refine ev_iconst (pc := 76) (v := 1) dX7_scanWord_76 (by decide) ?_
      have hF_77 := hb
      refine ev_icmp_ne (pc := 77) (tgt := 106) dX7_scanWord_77 (by decide) (fun c_77 => ?_) (fun c_77 => ?_)
      · try simp only [if_neg c_77] at h0
        try simp only [if_neg c_77] at h1
        subst h0
        subst h1
        exact ev_loc hE cw_le0
      · have hb := hF_77 c_77
        try simp only [if_pos c_77] at h0
        try simp only [if_pos c_77] at h1
        refine ev_aload_n (pc := 80) dX7_scanWord_80 rfl ?_
        refine ev_aload_n (pc := 81) dX7_scanWord_81 rfl ?_
        refine ev_iload_n (pc := 82) dX7_scanWord_82 rfl ?_
        refine ev_Vi (pc := 83) dX7_scanWord_83 lk_X7_66 cd_X7_isWord ar_X7_isWord ⟨by decide, rfl, rfl⟩ (cv_X7_isWord_34_txT g n I60 A J (t.1, true) v60_1 hb.1) (show 34 < 120 by decide) rfl rfl rfl rfl (Nat.le_of_ble_eq_true rfl) ⟨by decide, by decide⟩ ?_
        replace hb := hb.2
        refine ev_cut (pj := 97) (Lj := [some (.ref (cw_z g + 34)), some (.int v60_1)]) (stj := [(.int (qs1m86_X7_scanWord_34_txT n I A J t I60 v60_1)), (.ref (cw_z g + 34))]) (σj := hp g I60 A J (t.1, true)) ?_ (fun hJ_86 => ?_)
        rotate_left
        · refine ev_if_eq (pc := 86) (tgt := 96) dX7_scanWord_86 (by decide) (fun c_86 => ?_) (fun c_86 => ?_)
          · refine ev_iconst (pc := 96) (v := 1) dX7_scanWord_96 (by decide) ?_
            simp only [qs1m86_X7_scanWord_34_txT, if_pos c_86] at hJ_86
            exact ev_loc hJ_86 cw_le0
          · refine ev_bipush (pc := 89) (v := 13) dX7_scanWord_89 (by decide) ?_
            refine ev_iload_n (pc := 91) dX7_scanWord_91 rfl ?_
            refine ev_iadd (pc := 92) dX7_scanWord_92 ?_
            refine ev_goto (pc := 93) (tgt := 97) dX7_scanWord_93 (by decide) ?_
            simp only [qs1m86_X7_scanWord_34_txT, if_neg c_86] at hJ_86
            exact ev_loc hJ_86 cw_le0
        refine tw_puti (pc := 97) (I2 := (qI97_X7_scanWord_34_txT n I A J t I60 v60_1)) dX7_scanWord_97 fp_X7_22 (by decide) rfl rfl rfl ?_
        refine ev_iinc_1 (pc := 100) (v := (q100_X7_scanWord_34_txT n I A J t I60 v60_1)) dX7_scanWord_100 (by decide) rfl rfl ?_
        refine ev_goto (pc := 103) (tgt := 60) dX7_scanWord_103 (by decide) ?_
        exact ev_loc (ih (qI97_X7_scanWord_34_txT n I A J t I60 v60_1) (q100_X7_scanWord_34_txT n I A J t I60 v60_1) w0 w1 hb h0 h1 hE) cw_le0

set_option maxRecDepth 100000 in
set_option maxHeartbeats 4000000 in
theorem cv_X7_scanWord_34_txT (g : cw_G) (n : Nat) (I : Nat → Nat → Int32) (A : Nat → Nat → Int32) (J : Nat → Nat → Int64) (t : Bool × Bool) (hb : pb_X7_scanWord_34_txT n I A J t) : Cd g mX7_scanWord [(.ref (cw_z g + 34))] (hp g I A J (t.1, true)) none (hp g (pI_X7_scanWord_34_txT n I A J t) A J (t.1, true)) := by
  unfold pb_X7_scanWord_34_txT at hb
  unfold pI_X7_scanWord_34_txT
  refine Cd.of rfl (Nat.le_of_ble_eq_true rfl) (ev_gen (fun Q hQ => ?_))
  refine lt_X7_scanWord_34_txT_0 g n I A J t n I (qIw0_X7_scanWord_34_txT n I A J t) hb.1 rfl ?_
  replace hb := hb.2
  refine ev_aload_n (pc := 39) dX7_scanWord_39 rfl ?_
  refine ev_iconst (pc := 40) (v := 1) dX7_scanWord_40 (by decide) ?_
  refine tw_puti (pc := 41) (I2 := (qI41_X7_scanWord_34_txT n I A J t)) dX7_scanWord_41 fp_X7_22 (by decide) rfl rfl rfl ?_
  refine ev_aload_n (pc := 44) dX7_scanWord_44 rfl ?_
  refine tv_geti (pc := 45) dX7_scanWord_45 fl_X7_19 (by decide) rfl rfl ?_
  refine ev_aload_n (pc := 48) dX7_scanWord_48 rfl ?_
  refine tv_geti (pc := 49) dX7_scanWord_49 fl_X7_25 (by decide) rfl rfl ?_
  refine ev_isub (pc := 52) dX7_scanWord_52 ?_
  refine ev_bipush (pc := 53) (v := 8) dX7_scanWord_53 (by decide) ?_
  have hF_55 := hb
  refine ev_cut (pj := 106) (Lj := [some (.ref (cw_z g + 34)), none]) (stj := []) (σj := hp g (qIm55_X7_scanWord_34_txT n I A J t) A J (t.1, true)) ?_ (fun hJ_55 => ?_)
  rotate_left
  · refine ev_icmp_gt (pc := 55) (tgt := 106) dX7_scanWord_55 (by decide) (fun c_55 => ?_) (fun c_55 => ?_)
    · simp only [qIm55_X7_scanWord_34_txT, if_pos c_55] at hJ_55
      exact ev_loc hJ_55 cw_le0
    · have hb := hF_55 c_55
      refine ev_iconst (pc := 58) (v := 0) dX7_scanWord_58 (by decide) ?_
      refine ev_istore_1 (pc := 59) dX7_scanWord_59 (by decide) rfl ?_
      refine lt_X7_scanWord_34_txT_60 g n I A J t n (qI41_X7_scanWord_34_txT n I A J t) 0 (qIw60_X7_scanWord_34_txT n I A J t) (q1w60_X7_scanWord_34_txT n I A J t) hb rfl rfl ?_
      simp only [qIm55_X7_scanWord_34_txT, if_neg c_55] at hJ_55
      exact ev_loc hJ_55 (cw_leS (cw_leN cw_le0))
  exact ev_vret (pc := 106) dX7_scanWord_106 rfl (by decide) (by decide) (hQ _ _ ⟨rfl, rfl⟩)

def qs1m37_X7_scanInt_34_txT (n : Nat) (I : Nat → Nat → Int32) (A : Nat → Nat → Int32) (J : Nat → Nat → Int64) (t : Bool × Bool) (I0 : Nat → Nat → Int32) : Int32 := if 4 ≤ ((I0 34 2) - (I0 34 4)) then 0 else ((((I0 34 5) * 10) + (A 32 ((I0 34 2)).toNatClampNeg)) - 48)
def qI64_X7_scanInt_34_txT (n : Nat) (I : Nat → Nat → Int32) (A : Nat → Nat → Int32) (J : Nat → Nat → Int64) (t : Bool × Bool) (I0 : Nat → Nat → Int32) : Nat → Nat → Int32 := cw_u I0 34 5 (qs1m37_X7_scanInt_34_txT n I A J t I0)
def qI74_X7_scanInt_34_txT (n : Nat) (I : Nat → Nat → Int32) (A : Nat → Nat → Int32) (J : Nat → Nat → Int64) (t : Bool × Bool) (I0 : Nat → Nat → Int32) : Nat → Nat → Int32 := cw_u (qI64_X7_scanInt_34_txT n I A J t I0) 34 2 (((qI64_X7_scanInt_34_txT n I A J t I0) 34 2) + 1)
def lp_X7_scanInt_34_txT_0 (n : Nat) (I : Nat → Nat → Int32) (A : Nat → Nat → Int32) (J : Nat → Nat → Int64) (t : Bool × Bool) : Nat → (Nat → Nat → Int32) → (Nat → Nat → Int32)
  | 0, I0 => (I0)
  | f + 1, I0 => if (I0 34 1) ≤ (I0 34 2) then (I0) else if (px_X7_isDigit n I0 A J (t.1, true) (A 32 ((I0 34 2)).toNatClampNeg)) = 0 then (I0) else lp_X7_scanInt_34_txT_0 n I A J t f (qI74_X7_scanInt_34_txT n I A J t I0)
def lb_X7_scanInt_34_txT_0 (n : Nat) (I : Nat → Nat → Int32) (A : Nat → Nat → Int32) (J : Nat → Nat → Int64) (t : Bool × Bool) : Nat → (Nat → Nat → Int32) → Prop
  | 0, _ => False
  | f + 1, I0 => (¬ (I0 34 1) ≤ (I0 34 2) → vp_in (I0 34 2) 2000 ∧ (¬ (px_X7_isDigit n I0 A J (t.1, true) (A 32 ((I0 34 2)).toNatClampNeg)) = 0 → (¬ 4 ≤ ((I0 34 2) - (I0 34 4)) → vp_in (I0 34 2) 2000) ∧ lb_X7_scanInt_34_txT_0 n I A J t f (qI74_X7_scanInt_34_txT n I A J t I0)))
def qIw0_X7_scanInt_34_txT (n : Nat) (I : Nat → Nat → Int32) (A : Nat → Nat → Int32) (J : Nat → Nat → Int64) (t : Bool × Bool) : Nat → Nat → Int32 := (lp_X7_scanInt_34_txT_0 n I A J t n I)
def qs1m91_X7_scanInt_34_txT (n : Nat) (I : Nat → Nat → Int32) (A : Nat → Nat → Int32) (J : Nat → Nat → Int64) (t : Bool × Bool) : Int32 := if 4 < (((qIw0_X7_scanInt_34_txT n I A J t) 34 2) - ((qIw0_X7_scanInt_34_txT n I A J t) 34 4)) then 1 else 2
def qI99_X7_scanInt_34_txT (n : Nat) (I : Nat → Nat → Int32) (A : Nat → Nat → Int32) (J : Nat → Nat → Int64) (t : Bool × Bool) : Nat → Nat → Int32 := cw_u (qIw0_X7_scanInt_34_txT n I A J t) 34 3 (qs1m91_X7_scanInt_34_txT n I A J t)
def pb_X7_scanInt_34_txT (n : Nat) (I : Nat → Nat → Int32) (A : Nat → Nat → Int32) (J : Nat → Nat → Int64) (t : Bool × Bool) : Prop := lb_X7_scanInt_34_txT_0 n I A J t n I
def pI_X7_scanInt_34_txT (n : Nat) (I : Nat → Nat → Int32) (A : Nat → Nat → Int32) (J : Nat → Nat → Int64) (t : Bool × Bool) : Nat → Nat → Int32 := (qI99_X7_scanInt_34_txT n I A J t)
set_option maxRecDepth 100000 in
set_option maxHeartbeats 4000000 in
theorem lt_X7_scanInt_34_txT_0 (g : cw_G) (n : Nat) (I : Nat → Nat → Int32) (A : Nat → Nat → Int32) (J : Nat → Nat → Int64) (t : Bool × Bool) {Q : Option Value → cw_H → Prop} : ∀ (f : Nat) (I0 : Nat → Nat → Int32) (w0 : Nat → Nat → Int32), lb_X7_scanInt_34_txT_0 n I A J t f I0 → (lp_X7_scanInt_34_txT_0 n I A J t f I0) = w0 → Ev g mX7_scanInt 0 0 80 [some (.ref (cw_z g + 34))] [] (hp g w0 A J (t.1, true)) Q → Ev g mX7_scanInt 0 0 0 [some (.ref (cw_z g + 34))] [] (hp g I0 A J (t.1, true)) Q := by
  intro f
  induction f with
  | zero =>
    intro I0 w0 hb
    exact hb.elim
  | succ f ih =>
    intro I0 w0 hb h0 hE
    rw [lb_X7_scanInt_34_txT_0] at hb
    rw [lp_X7_scanInt_34_txT_0] at h0
    refine ev_aload_n (pc := 0) dX7_scanInt_0 rfl ?_
    refine tv_geti (pc := 1) dX7_scanInt_1 fl_X7_19 (by decide) rfl rfl ?_
    refine ev_aload_n (pc := 4) dX7_scanInt_4 rfl ?_
    refine tv_geti (pc := 5) dX7_scanInt_5 fl_X7_15 (by decide) rfl rfl ?_
    have hF_8 := hb
    refine ev_icmp_ge (pc := 8) (tgt := 80) dX7_scanInt_8 (by decide) (fun c_8 => ?_) (fun c_8 => ?_)
    · try simp only [if_pos c_8] at h0
      subst h0
      exact ev_loc hE cw_le0
    · have hb := hF_8 c_8
      try simp only [if_neg c_8] at h0
      refine ev_aload_n (pc := 11) dX7_scanInt_11 rfl ?_
      refine tv_getr (pc := 12) (d := 32) dX7_scanInt_12 fl_X7_9 (by decide) rfl rfl ?_
      refine ev_aload_n (pc := 15) dX7_scanInt_15 rfl ?_
      refine tv_geti (pc := 16) dX7_scanInt_16 fl_X7_19 (by decide) rfl rfl ?_
      refine ev_bald (pc := 19) dX7_scanInt_19 (by decide) rfl hb.1 ?_
      replace hb := hb.2
      refine ev_Si (pc := 20) dX7_scanInt_20 lk_X7_48 cd_X7_isDigit ar_X7_isDigit ⟨by decide, rfl, rfl⟩ (cv_X7_isDigit g n I0 A J (t.1, true) (A 32 ((I0 34 2)).toNatClampNeg)) rfl rfl (Nat.le_of_ble_eq_true rfl) ⟨by decide, by decide⟩ ?_
      have hF_23 := hb
      refine ev_if_eq (pc := 23) (tgt := 80) dX7_scanInt_23 (by decide) (fun c_23 => ?_) (fun c_23 => ?_)
      · try simp only [if_pos c_23] at h0
        subst h0
        exact ev_loc hE cw_le0
      · have hb := hF_23 c_23
        try simp only [if_neg c_23] at h0
        refine ev_aload_n (pc := 26) dX7_scanInt_26 rfl ?_
        refine ev_aload_n (pc := 27) dX7_scanInt_27 rfl ?_
        refine tv_geti (pc := 28) dX7_scanInt_28 fl_X7_19 (by decide) rfl rfl ?_
        refine ev_aload_n (pc := 31) dX7_scanInt_31 rfl ?_
        refine tv_geti (pc := 32) dX7_scanInt_32 fl_X7_25 (by decide) rfl rfl ?_
        refine ev_isub (pc := 35) dX7_scanInt_35 ?_
        refine ev_iconst (pc := 36) (v := 4) dX7_scanInt_36 (by decide) ?_
        obtain ⟨hF_37, hb⟩ := hb
        refine ev_cut (pj := 64) (Lj := [some (.ref (cw_z g + 34))]) (stj := [(.int (qs1m37_X7_scanInt_34_txT n I A J t I0)), (.ref (cw_z g + 34))]) (σj := hp g I0 A J (t.1, true)) ?_ (fun hJ_37 => ?_)
        rotate_left
        · refine ev_icmp_ge (pc := 37) (tgt := 63) dX7_scanInt_37 (by decide) (fun c_37 => ?_) (fun c_37 => ?_)
          · refine ev_iconst (pc := 63) (v := 0) dX7_scanInt_63 (by decide) ?_
            simp only [qs1m37_X7_scanInt_34_txT, if_pos c_37] at hJ_37
            exact ev_loc hJ_37 cw_le0
          · have hb := hF_37 c_37
            refine ev_aload_n (pc := 40) dX7_scanInt_40 rfl ?_
            refine tv_geti (pc := 41) dX7_scanInt_41 fl_X7_28 (by decide) rfl rfl ?_
            refine ev_bipush (pc := 44) (v := 10) dX7_scanInt_44 (by decide) ?_
            refine ev_imul (pc := 46) dX7_scanInt_46 ?_
            refine ev_aload_n (pc := 47) dX7_scanInt_47 rfl ?_
            refine tv_getr (pc := 48) (d := 32) dX7_scanInt_48 fl_X7_9 (by decide) rfl rfl ?_
            refine ev_aload_n (pc := 51) dX7_scanInt_51 rfl ?_
            refine tv_geti (pc := 52) dX7_scanInt_52 fl_X7_19 (by decide) rfl rfl ?_
            refine ev_bald (pc := 55) dX7_scanInt_55 (by decide) rfl hb ?_
            refine ev_iadd (pc := 56) dX7_scanInt_56 ?_
            refine ev_bipush (pc := 57) (v := 48) dX7_scanInt_57 (by decide) ?_
            refine ev_isub (pc := 59) dX7_scanInt_59 ?_
            refine ev_goto (pc := 60) (tgt := 64) dX7_scanInt_60 (by decide) ?_
            simp only [qs1m37_X7_scanInt_34_txT, if_neg c_37] at hJ_37
            exact ev_loc hJ_37 cw_le0
        refine tw_puti (pc := 64) (I2 := (qI64_X7_scanInt_34_txT n I A J t I0)) dX7_scanInt_64 fp_X7_28 (by decide) rfl rfl rfl ?_
        refine ev_aload_n (pc := 67) dX7_scanInt_67 rfl ?_
        refine ev_dup (pc := 68) dX7_scanInt_68 rfl ?_
        refine tv_geti (pc := 69) dX7_scanInt_69 fl_X7_19 (by decide) rfl rfl ?_
        refine ev_iconst (pc := 72) (v := 1) dX7_scanInt_72 (by decide) ?_
        refine ev_iadd (pc := 73) dX7_scanInt_73 ?_
        refine tw_puti (pc := 74) (I2 := (qI74_X7_scanInt_34_txT n I A J t I0)) dX7_scanInt_74 fp_X7_19 (by decide) rfl rfl rfl ?_
        refine ev_goto (pc := 77) (tgt := 0) dX7_scanInt_77 (by decide) ?_
        exact ev_loc (ih (qI74_X7_scanInt_34_txT n I A J t I0) w0 hb h0 hE) cw_le0

set_option maxRecDepth 100000 in
set_option maxHeartbeats 4000000 in
theorem cv_X7_scanInt_34_txT (g : cw_G) (n : Nat) (I : Nat → Nat → Int32) (A : Nat → Nat → Int32) (J : Nat → Nat → Int64) (t : Bool × Bool) (hb : pb_X7_scanInt_34_txT n I A J t) : Cd g mX7_scanInt [(.ref (cw_z g + 34))] (hp g I A J (t.1, true)) none (hp g (pI_X7_scanInt_34_txT n I A J t) A J (t.1, true)) := by
  unfold pb_X7_scanInt_34_txT at hb
  unfold pI_X7_scanInt_34_txT
  refine Cd.of rfl (Nat.le_of_ble_eq_true rfl) (ev_gen (fun Q hQ => ?_))
  refine lt_X7_scanInt_34_txT_0 g n I A J t n I (qIw0_X7_scanInt_34_txT n I A J t) hb rfl ?_
  refine ev_aload_n (pc := 80) dX7_scanInt_80 rfl ?_
  refine ev_aload_n (pc := 81) dX7_scanInt_81 rfl ?_
  refine tv_geti (pc := 82) dX7_scanInt_82 fl_X7_19 (by decide) rfl rfl ?_
  refine ev_aload_n (pc := 85) dX7_scanInt_85 rfl ?_
  refine tv_geti (pc := 86) dX7_scanInt_86 fl_X7_25 (by decide) rfl rfl ?_
  refine ev_isub (pc := 89) dX7_scanInt_89 ?_
  refine ev_iconst (pc := 90) (v := 4) dX7_scanInt_90 (by decide) ?_
  refine ev_cut (pj := 99) (Lj := [some (.ref (cw_z g + 34))]) (stj := [(.int (qs1m91_X7_scanInt_34_txT n I A J t)), (.ref (cw_z g + 34))]) (σj := hp g (qIw0_X7_scanInt_34_txT n I A J t) A J (t.1, true)) ?_ (fun hJ_91 => ?_)
  rotate_left
  · refine ev_icmp_gt (pc := 91) (tgt := 98) dX7_scanInt_91 (by decide) (fun c_91 => ?_) (fun c_91 => ?_)
    · refine ev_iconst (pc := 98) (v := 1) dX7_scanInt_98 (by decide) ?_
      simp only [qs1m91_X7_scanInt_34_txT, if_pos c_91] at hJ_91
      exact ev_loc hJ_91 cw_le0
    · refine ev_iconst (pc := 94) (v := 2) dX7_scanInt_94 (by decide) ?_
      refine ev_goto (pc := 95) (tgt := 99) dX7_scanInt_95 (by decide) ?_
      simp only [qs1m91_X7_scanInt_34_txT, if_neg c_91] at hJ_91
      exact ev_loc hJ_91 cw_le0
  refine tw_puti (pc := 99) (I2 := (qI99_X7_scanInt_34_txT n I A J t)) dX7_scanInt_99 fp_X7_22 (by decide) rfl rfl rfl ?_
  exact ev_vret (pc := 102) dX7_scanInt_102 rfl (by decide) (by decide) (hQ _ _ ⟨rfl, rfl⟩)

def qs0m26_X7_scanSign_34_txT (n : Nat) (I : Nat → Nat → Int32) (A : Nat → Nat → Int32) (J : Nat → Nat → Int64) (t : Bool × Bool) : Int32 := if (A 32 (((I 34 2) + 1)).toNatClampNeg) = 61 then 1 else 0
def qs0m10_X7_scanSign_34_txT (n : Nat) (I : Nat → Nat → Int32) (A : Nat → Nat → Int32) (J : Nat → Nat → Int64) (t : Bool × Bool) : Int32 := if (I 34 1) ≤ ((I 34 2) + 1) then 0 else (qs0m26_X7_scanSign_34_txT n I A J t)
def qI49_X7_scanSign_34_txT (n : Nat) (I : Nat → Nat → Int32) (A : Nat → Nat → Int32) (J : Nat → Nat → Int64) (t : Bool × Bool) : Nat → Nat → Int32 := cw_u I 34 3 (px_X7_signOf n I A J (t.1, true) (A 32 ((I 34 2)).toNatClampNeg) (qs0m10_X7_scanSign_34_txT n I A J t))
def qs0m76_X7_scanSign_34_txT (n : Nat) (I : Nat → Nat → Int32) (A : Nat → Nat → Int32) (J : Nat → Nat → Int64) (t : Bool × Bool) : Int32 := if ((qI49_X7_scanSign_34_txT n I A J t) 34 3) = 10 then 1 else 0
def qs0m67_X7_scanSign_34_txT (n : Nat) (I : Nat → Nat → Int32) (A : Nat → Nat → Int32) (J : Nat → Nat → Int64) (t : Bool × Bool) : Int32 := if ((qI49_X7_scanSign_34_txT n I A J t) 34 3) = 8 then 1 else (qs0m76_X7_scanSign_34_txT n I A J t)
def qs0m58_X7_scanSign_34_txT (n : Nat) (I : Nat → Nat → Int32) (A : Nat → Nat → Int32) (J : Nat → Nat → Int64) (t : Bool × Bool) : Int32 := if ((qI49_X7_scanSign_34_txT n I A J t) 34 3) = 7 then 1 else (qs0m67_X7_scanSign_34_txT n I A J t)
def qs2m91_X7_scanSign_34_txT (n : Nat) (I : Nat → Nat → Int32) (A : Nat → Nat → Int32) (J : Nat → Nat → Int64) (t : Bool × Bool) : Int32 := if (qs0m58_X7_scanSign_34_txT n I A J t) = 0 then 1 else 2
def qI100_X7_scanSign_34_txT (n : Nat) (I : Nat → Nat → Int32) (A : Nat → Nat → Int32) (J : Nat → Nat → Int64) (t : Bool × Bool) : Nat → Nat → Int32 := cw_u (qI49_X7_scanSign_34_txT n I A J t) 34 2 (((qI49_X7_scanSign_34_txT n I A J t) 34 2) + (qs2m91_X7_scanSign_34_txT n I A J t))
def pb_X7_scanSign_34_txT (n : Nat) (I : Nat → Nat → Int32) (A : Nat → Nat → Int32) (J : Nat → Nat → Int64) (t : Bool × Bool) : Prop := (¬ (I 34 1) ≤ ((I 34 2) + 1) → vp_in ((I 34 2) + 1) 2000) ∧ vp_in (I 34 2) 2000
def pI_X7_scanSign_34_txT (n : Nat) (I : Nat → Nat → Int32) (A : Nat → Nat → Int32) (J : Nat → Nat → Int64) (t : Bool × Bool) : Nat → Nat → Int32 := (qI100_X7_scanSign_34_txT n I A J t)
set_option maxRecDepth 100000 in
set_option maxHeartbeats 4000000 in
theorem cv_X7_scanSign_34_txT (g : cw_G) (n : Nat) (I : Nat → Nat → Int32) (A : Nat → Nat → Int32) (J : Nat → Nat → Int64) (t : Bool × Bool) (hb : pb_X7_scanSign_34_txT n I A J t) : Cd g mX7_scanSign [(.ref (cw_z g + 34))] (hp g I A J (t.1, true)) none (hp g (pI_X7_scanSign_34_txT n I A J t) A J (t.1, true)) := by
  unfold pb_X7_scanSign_34_txT at hb
  unfold pI_X7_scanSign_34_txT
  refine Cd.of rfl (Nat.le_of_ble_eq_true rfl) (ev_gen (fun Q hQ => ?_))
  refine ev_aload_n (pc := 0) dX7_scanSign_0 rfl ?_
  refine tv_geti (pc := 1) dX7_scanSign_1 fl_X7_19 (by decide) rfl rfl ?_
  refine ev_iconst (pc := 4) (v := 1) dX7_scanSign_4 (by decide) ?_
  refine ev_iadd (pc := 5) dX7_scanSign_5 ?_
  refine ev_aload_n (pc := 6) dX7_scanSign_6 rfl ?_
  refine tv_geti (pc := 7) dX7_scanSign_7 fl_X7_15 (by decide) rfl rfl ?_
  obtain ⟨hF_10, hb⟩ := hb
  refine ev_cut (pj := 34) (Lj := [some (.ref (cw_z g + 34)), none, none]) (stj := [(.int (qs0m10_X7_scanSign_34_txT n I A J t))]) (σj := hp g I A J (t.1, true)) ?_ (fun hJ_10 => ?_)
  rotate_left
  · refine ev_icmp_ge (pc := 10) (tgt := 33) dX7_scanSign_10 (by decide) (fun c_10 => ?_) (fun c_10 => ?_)
    · refine ev_iconst (pc := 33) (v := 0) dX7_scanSign_33 (by decide) ?_
      simp only [qs0m10_X7_scanSign_34_txT, if_pos c_10] at hJ_10
      exact ev_loc hJ_10 cw_le0
    · have hb := hF_10 c_10
      refine ev_aload_n (pc := 13) dX7_scanSign_13 rfl ?_
      refine tv_getr (pc := 14) (d := 32) dX7_scanSign_14 fl_X7_9 (by decide) rfl rfl ?_
      refine ev_aload_n (pc := 17) dX7_scanSign_17 rfl ?_
      refine tv_geti (pc := 18) dX7_scanSign_18 fl_X7_19 (by decide) rfl rfl ?_
      refine ev_iconst (pc := 21) (v := 1) dX7_scanSign_21 (by decide) ?_
      refine ev_iadd (pc := 22) dX7_scanSign_22 ?_
      refine ev_bald (pc := 23) dX7_scanSign_23 (by decide) rfl hb ?_
      refine ev_bipush (pc := 24) (v := 61) dX7_scanSign_24 (by decide) ?_
      refine ev_cut (pj := 34) (Lj := [some (.ref (cw_z g + 34)), none, none]) (stj := [(.int (qs0m26_X7_scanSign_34_txT n I A J t))]) (σj := hp g I A J (t.1, true)) ?_ (fun hJ_26 => ?_)
      rotate_left
      · refine ev_icmp_ne (pc := 26) (tgt := 33) dX7_scanSign_26 (by decide) (fun c_26 => ?_) (fun c_26 => ?_)
        · refine ev_iconst (pc := 33) (v := 0) dX7_scanSign_33 (by decide) ?_
          simp only [qs0m26_X7_scanSign_34_txT, if_neg c_26] at hJ_26
          exact ev_loc hJ_26 cw_le0
        · refine ev_iconst (pc := 29) (v := 1) dX7_scanSign_29 (by decide) ?_
          refine ev_goto (pc := 30) (tgt := 34) dX7_scanSign_30 (by decide) ?_
          simp only [qs0m26_X7_scanSign_34_txT, if_pos c_26] at hJ_26
          exact ev_loc hJ_26 cw_le0
      simp only [qs0m10_X7_scanSign_34_txT, if_neg c_10] at hJ_10
      exact ev_loc hJ_10 cw_le0
  refine ev_istore_1 (pc := 34) dX7_scanSign_34 (by decide) rfl ?_
  refine ev_aload_n (pc := 35) dX7_scanSign_35 rfl ?_
  refine ev_aload_n (pc := 36) dX7_scanSign_36 rfl ?_
  refine tv_getr (pc := 37) (d := 32) dX7_scanSign_37 fl_X7_9 (by decide) rfl rfl ?_
  refine ev_aload_n (pc := 40) dX7_scanSign_40 rfl ?_
  refine tv_geti (pc := 41) dX7_scanSign_41 fl_X7_19 (by decide) rfl rfl ?_
  refine ev_bald (pc := 44) dX7_scanSign_44 (by decide) rfl hb ?_
  refine ev_iload_n (pc := 45) dX7_scanSign_45 rfl ?_
  refine ev_Si (pc := 46) dX7_scanSign_46 lk_X7_73 cd_X7_signOf ar_X7_signOf ⟨by decide, rfl, rfl⟩ (cv_X7_signOf g n I A J (t.1, true) (A 32 ((I 34 2)).toNatClampNeg) (qs0m10_X7_scanSign_34_txT n I A J t)) rfl rfl (Nat.le_of_ble_eq_true rfl) ⟨by decide, by decide⟩ ?_
  refine tw_puti (pc := 49) (I2 := (qI49_X7_scanSign_34_txT n I A J t)) dX7_scanSign_49 fp_X7_22 (by decide) rfl rfl rfl ?_
  refine ev_aload_n (pc := 52) dX7_scanSign_52 rfl ?_
  refine tv_geti (pc := 53) dX7_scanSign_53 fl_X7_22 (by decide) rfl rfl ?_
  refine ev_bipush (pc := 56) (v := 7) dX7_scanSign_56 (by decide) ?_
  refine ev_cut (pj := 84) (Lj := [some (.ref (cw_z g + 34)), some (.int (qs0m10_X7_scanSign_34_txT n I A J t)), none]) (stj := [(.int (qs0m58_X7_scanSign_34_txT n I A J t))]) (σj := hp g (qI49_X7_scanSign_34_txT n I A J t) A J (t.1, true)) ?_ (fun hJ_58 => ?_)
  rotate_left
  · refine ev_icmp_eq (pc := 58) (tgt := 79) dX7_scanSign_58 (by decide) (fun c_58 => ?_) (fun c_58 => ?_)
    · refine ev_iconst (pc := 79) (v := 1) dX7_scanSign_79 (by decide) ?_
      refine ev_goto (pc := 80) (tgt := 84) dX7_scanSign_80 (by decide) ?_
      simp only [qs0m58_X7_scanSign_34_txT, if_pos c_58] at hJ_58
      exact ev_loc hJ_58 cw_le0
    · refine ev_aload_n (pc := 61) dX7_scanSign_61 rfl ?_
      refine tv_geti (pc := 62) dX7_scanSign_62 fl_X7_22 (by decide) rfl rfl ?_
      refine ev_bipush (pc := 65) (v := 8) dX7_scanSign_65 (by decide) ?_
      refine ev_cut (pj := 84) (Lj := [some (.ref (cw_z g + 34)), some (.int (qs0m10_X7_scanSign_34_txT n I A J t)), none]) (stj := [(.int (qs0m67_X7_scanSign_34_txT n I A J t))]) (σj := hp g (qI49_X7_scanSign_34_txT n I A J t) A J (t.1, true)) ?_ (fun hJ_67 => ?_)
      rotate_left
      · refine ev_icmp_eq (pc := 67) (tgt := 79) dX7_scanSign_67 (by decide) (fun c_67 => ?_) (fun c_67 => ?_)
        · refine ev_iconst (pc := 79) (v := 1) dX7_scanSign_79 (by decide) ?_
          refine ev_goto (pc := 80) (tgt := 84) dX7_scanSign_80 (by decide) ?_
          simp only [qs0m67_X7_scanSign_34_txT, if_pos c_67] at hJ_67
          exact ev_loc hJ_67 cw_le0
        · refine ev_aload_n (pc := 70) dX7_scanSign_70 rfl ?_
          refine tv_geti (pc := 71) dX7_scanSign_71 fl_X7_22 (by decide) rfl rfl ?_
          refine ev_bipush (pc := 74) (v := 10) dX7_scanSign_74 (by decide) ?_
          refine ev_cut (pj := 84) (Lj := [some (.ref (cw_z g + 34)), some (.int (qs0m10_X7_scanSign_34_txT n I A J t)), none]) (stj := [(.int (qs0m76_X7_scanSign_34_txT n I A J t))]) (σj := hp g (qI49_X7_scanSign_34_txT n I A J t) A J (t.1, true)) ?_ (fun hJ_76 => ?_)
          rotate_left
          · refine ev_icmp_ne (pc := 76) (tgt := 83) dX7_scanSign_76 (by decide) (fun c_76 => ?_) (fun c_76 => ?_)
            · refine ev_iconst (pc := 83) (v := 0) dX7_scanSign_83 (by decide) ?_
              simp only [qs0m76_X7_scanSign_34_txT, if_neg c_76] at hJ_76
              exact ev_loc hJ_76 cw_le0
            · refine ev_iconst (pc := 79) (v := 1) dX7_scanSign_79 (by decide) ?_
              refine ev_goto (pc := 80) (tgt := 84) dX7_scanSign_80 (by decide) ?_
              simp only [qs0m76_X7_scanSign_34_txT, if_pos c_76] at hJ_76
              exact ev_loc hJ_76 cw_le0
          simp only [qs0m67_X7_scanSign_34_txT, if_neg c_67] at hJ_67
          exact ev_loc hJ_67 cw_le0
      simp only [qs0m58_X7_scanSign_34_txT, if_neg c_58] at hJ_58
      exact ev_loc hJ_58 cw_le0
  refine ev_istore_2 (pc := 84) dX7_scanSign_84 (by decide) rfl ?_
  refine ev_aload_n (pc := 85) dX7_scanSign_85 rfl ?_
  refine ev_dup (pc := 86) dX7_scanSign_86 rfl ?_
  refine tv_geti (pc := 87) dX7_scanSign_87 fl_X7_19 (by decide) rfl rfl ?_
  refine ev_iload_n (pc := 90) dX7_scanSign_90 rfl ?_
  refine ev_cut (pj := 99) (Lj := [some (.ref (cw_z g + 34)), some (.int (qs0m10_X7_scanSign_34_txT n I A J t)), some (.int (qs0m58_X7_scanSign_34_txT n I A J t))]) (stj := [(.int (qs2m91_X7_scanSign_34_txT n I A J t)), (.int ((qI49_X7_scanSign_34_txT n I A J t) 34 2)), (.ref (cw_z g + 34))]) (σj := hp g (qI49_X7_scanSign_34_txT n I A J t) A J (t.1, true)) ?_ (fun hJ_91 => ?_)
  rotate_left
  · refine ev_if_eq (pc := 91) (tgt := 98) dX7_scanSign_91 (by decide) (fun c_91 => ?_) (fun c_91 => ?_)
    · refine ev_iconst (pc := 98) (v := 1) dX7_scanSign_98 (by decide) ?_
      simp only [qs2m91_X7_scanSign_34_txT, if_pos c_91] at hJ_91
      exact ev_loc hJ_91 cw_le0
    · refine ev_iconst (pc := 94) (v := 2) dX7_scanSign_94 (by decide) ?_
      refine ev_goto (pc := 95) (tgt := 99) dX7_scanSign_95 (by decide) ?_
      simp only [qs2m91_X7_scanSign_34_txT, if_neg c_91] at hJ_91
      exact ev_loc hJ_91 cw_le0
  refine ev_iadd (pc := 99) dX7_scanSign_99 ?_
  refine tw_puti (pc := 100) (I2 := (qI100_X7_scanSign_34_txT n I A J t)) dX7_scanSign_100 fp_X7_19 (by decide) rfl rfl rfl ?_
  exact ev_vret (pc := 103) dX7_scanSign_103 rfl (by decide) (by decide) (hQ _ _ ⟨rfl, rfl⟩)

def qI5_X7_advance_34_txT (n : Nat) (I : Nat → Nat → Int32) (A : Nat → Nat → Int32) (J : Nat → Nat → Int64) (t : Bool × Bool) : Nat → Nat → Int32 := cw_u I 34 2 (px_X7_behindBlanks_34_txT n I A J (t.1, true) )
def qI13_X7_advance_34_txT (n : Nat) (I : Nat → Nat → Int32) (A : Nat → Nat → Int32) (J : Nat → Nat → Int64) (t : Bool × Bool) : Nat → Nat → Int32 := cw_u (qI5_X7_advance_34_txT n I A J t) 34 4 ((qI5_X7_advance_34_txT n I A J t) 34 2)
def qI18_X7_advance_34_txT (n : Nat) (I : Nat → Nat → Int32) (A : Nat → Nat → Int32) (J : Nat → Nat → Int64) (t : Bool × Bool) : Nat → Nat → Int32 := cw_u (qI13_X7_advance_34_txT n I A J t) 34 5 0
def qIm74_X7_advance_34_txT (n : Nat) (I : Nat → Nat → Int32) (A : Nat → Nat → Int32) (J : Nat → Nat → Int64) (t : Bool × Bool) : Nat → Nat → Int32 := if (px_X7_isDigit n (qI18_X7_advance_34_txT n I A J t) A J (t.1, true) (A 32 (((qI18_X7_advance_34_txT n I A J t) 34 2)).toNatClampNeg)) = 0 then (pI_X7_scanSign_34_txT n (qI18_X7_advance_34_txT n I A J t) A J (t.1, true) ) else (pI_X7_scanInt_34_txT n (qI18_X7_advance_34_txT n I A J t) A J (t.1, true) )
def qIm52_X7_advance_34_txT (n : Nat) (I : Nat → Nat → Int32) (A : Nat → Nat → Int32) (J : Nat → Nat → Int64) (t : Bool × Bool) : Nat → Nat → Int32 := if (px_X7_isLetter n (qI18_X7_advance_34_txT n I A J t) A J (t.1, true) (A 32 (((qI18_X7_advance_34_txT n I A J t) 34 2)).toNatClampNeg)) = 0 then (qIm74_X7_advance_34_txT n I A J t) else (pI_X7_scanWord_34_txT n (qI18_X7_advance_34_txT n I A J t) A J (t.1, true) )
def qI34_X7_advance_34_txT (n : Nat) (I : Nat → Nat → Int32) (A : Nat → Nat → Int32) (J : Nat → Nat → Int64) (t : Bool × Bool) : Nat → Nat → Int32 := cw_u (qI18_X7_advance_34_txT n I A J t) 34 3 0
def qIm29_X7_advance_34_txT (n : Nat) (I : Nat → Nat → Int32) (A : Nat → Nat → Int32) (J : Nat → Nat → Int64) (t : Bool × Bool) : Nat → Nat → Int32 := if ((qI18_X7_advance_34_txT n I A J t) 34 2) < ((qI18_X7_advance_34_txT n I A J t) 34 1) then (qIm52_X7_advance_34_txT n I A J t) else (qI34_X7_advance_34_txT n I A J t)
def pb_X7_advance_34_txT (n : Nat) (I : Nat → Nat → Int32) (A : Nat → Nat → Int32) (J : Nat → Nat → Int64) (t : Bool × Bool) : Prop := pb_X7_behindBlanks_34_txT n I A J (t.1, true)  ∧ (((qI18_X7_advance_34_txT n I A J t) 34 2) < ((qI18_X7_advance_34_txT n I A J t) 34 1) → vp_in ((qI18_X7_advance_34_txT n I A J t) 34 2) 2000 ∧ ((px_X7_isLetter n (qI18_X7_advance_34_txT n I A J t) A J (t.1, true) (A 32 (((qI18_X7_advance_34_txT n I A J t) 34 2)).toNatClampNeg)) = 0 → vp_in ((qI18_X7_advance_34_txT n I A J t) 34 2) 2000 ∧ ((px_X7_isDigit n (qI18_X7_advance_34_txT n I A J t) A J (t.1, true) (A 32 (((qI18_X7_advance_34_txT n I A J t) 34 2)).toNatClampNeg)) = 0 → pb_X7_scanSign_34_txT n (qI18_X7_advance_34_txT n I A J t) A J (t.1, true) ) ∧ (¬ (px_X7_isDigit n (qI18_X7_advance_34_txT n I A J t) A J (t.1, true) (A 32 (((qI18_X7_advance_34_txT n I A J t) 34 2)).toNatClampNeg)) = 0 → pb_X7_scanInt_34_txT n (qI18_X7_advance_34_txT n I A J t) A J (t.1, true) )) ∧ (¬ (px_X7_isLetter n (qI18_X7_advance_34_txT n I A J t) A J (t.1, true) (A 32 (((qI18_X7_advance_34_txT n I A J t) 34 2)).toNatClampNeg)) = 0 → pb_X7_scanWord_34_txT n (qI18_X7_advance_34_txT n I A J t) A J (t.1, true) ))
def pI_X7_advance_34_txT (n : Nat) (I : Nat → Nat → Int32) (A : Nat → Nat → Int32) (J : Nat → Nat → Int64) (t : Bool × Bool) : Nat → Nat → Int32 := (qIm29_X7_advance_34_txT n I A J t)
set_option maxRecDepth 100000 in
set_option maxHeartbeats 4000000 in
theorem cv_X7_advance_34_txT (g : cw_G) (n : Nat) (I : Nat → Nat → Int32) (A : Nat → Nat → Int32) (J : Nat → Nat → Int64) (t : Bool × Bool) (hb : pb_X7_advance_34_txT n I A J t) : Cd g mX7_advance [(.ref (cw_z g + 34))] (hp g I A J (t.1, true)) none (hp g (pI_X7_advance_34_txT n I A J t) A J (t.1, true)) := by
  unfold pb_X7_advance_34_txT at hb
  unfold pI_X7_advance_34_txT
  refine Cd.of rfl (Nat.le_of_ble_eq_true rfl) (ev_gen (fun Q hQ => ?_))
  refine ev_aload_n (pc := 0) dX7_advance_0 rfl ?_
  refine ev_aload_n (pc := 1) dX7_advance_1 rfl ?_
  refine ev_Vi (pc := 2) dX7_advance_2 lk_X7_37 cd_X7_behindBlanks ar_X7_behindBlanks ⟨by decide, rfl, rfl⟩ (cv_X7_behindBlanks_34_txT g n I A J (t.1, true)  hb.1) (show 34 < 120 by decide) rfl rfl rfl rfl (Nat.le_of_ble_eq_true rfl) ⟨by decide, by decide⟩ ?_
  replace hb := hb.2
  refine tw_puti (pc := 5) (I2 := (qI5_X7_advance_34_txT n I A J t)) dX7_advance_5 fp_X7_19 (by decide) rfl rfl rfl ?_
  refine ev_aload_n (pc := 8) dX7_advance_8 rfl ?_
  refine ev_aload_n (pc := 9) dX7_advance_9 rfl ?_
  refine tv_geti (pc := 10) dX7_advance_10 fl_X7_19 (by decide) rfl rfl ?_
  refine tw_puti (pc := 13) (I2 := (qI13_X7_advance_34_txT n I A J t)) dX7_advance_13 fp_X7_25 (by decide) rfl rfl rfl ?_
  refine ev_aload_n (pc := 16) dX7_advance_16 rfl ?_
  refine ev_iconst (pc := 17) (v := 0) dX7_advance_17 (by decide) ?_
  refine tw_puti (pc := 18) (I2 := (qI18_X7_advance_34_txT n I A J t)) dX7_advance_18 fp_X7_28 (by decide) rfl rfl rfl ?_
  refine ev_aload_n (pc := 21) dX7_advance_21 rfl ?_
  refine tv_geti (pc := 22) dX7_advance_22 fl_X7_19 (by decide) rfl rfl ?_
  refine ev_aload_n (pc := 25) dX7_advance_25 rfl ?_
  refine tv_geti (pc := 26) dX7_advance_26 fl_X7_15 (by decide) rfl rfl ?_
  have hT_29 := hb
  refine ev_cut (pj := 88) (Lj := [some (.ref (cw_z g + 34))]) (stj := []) (σj := hp g (qIm29_X7_advance_34_txT n I A J t) A J (t.1, true)) ?_ (fun hJ_29 => ?_)
  rotate_left
  · refine ev_icmp_lt (pc := 29) (tgt := 40) dX7_advance_29 (by decide) (fun c_29 => ?_) (fun c_29 => ?_)
    · have hb := hT_29 c_29
      refine ev_aload_n (pc := 40) dX7_advance_40 rfl ?_
      refine tv_getr (pc := 41) (d := 32) dX7_advance_41 fl_X7_9 (by decide) rfl rfl ?_
      refine ev_aload_n (pc := 44) dX7_advance_44 rfl ?_
      refine tv_geti (pc := 45) dX7_advance_45 fl_X7_19 (by decide) rfl rfl ?_
      refine ev_bald (pc := 48) dX7_advance_48 (by decide) rfl hb.1 ?_
      replace hb := hb.2
      refine ev_Si (pc := 49) dX7_advance_49 lk_X7_41 cd_X7_isLetter ar_X7_isLetter ⟨by decide, rfl, rfl⟩ (cv_X7_isLetter g n (qI18_X7_advance_34_txT n I A J t) A J (t.1, true) (A 32 (((qI18_X7_advance_34_txT n I A J t) 34 2)).toNatClampNeg)) rfl rfl (Nat.le_of_ble_eq_true rfl) ⟨by decide, by decide⟩ ?_
      obtain ⟨hT_52, hF_52⟩ := hb
      refine ev_cut (pj := 88) (Lj := [some (.ref (cw_z g + 34))]) (stj := []) (σj := hp g (qIm52_X7_advance_34_txT n I A J t) A J (t.1, true)) ?_ (fun hJ_52 => ?_)
      rotate_left
      · refine ev_if_eq (pc := 52) (tgt := 62) dX7_advance_52 (by decide) (fun c_52 => ?_) (fun c_52 => ?_)
        · have hb := hT_52 c_52
          refine ev_aload_n (pc := 62) dX7_advance_62 rfl ?_
          refine tv_getr (pc := 63) (d := 32) dX7_advance_63 fl_X7_9 (by decide) rfl rfl ?_
          refine ev_aload_n (pc := 66) dX7_advance_66 rfl ?_
          refine tv_geti (pc := 67) dX7_advance_67 fl_X7_19 (by decide) rfl rfl ?_
          refine ev_bald (pc := 70) dX7_advance_70 (by decide) rfl hb.1 ?_
          replace hb := hb.2
          refine ev_Si (pc := 71) dX7_advance_71 lk_X7_48 cd_X7_isDigit ar_X7_isDigit ⟨by decide, rfl, rfl⟩ (cv_X7_isDigit g n (qI18_X7_advance_34_txT n I A J t) A J (t.1, true) (A 32 (((qI18_X7_advance_34_txT n I A J t) 34 2)).toNatClampNeg)) rfl rfl (Nat.le_of_ble_eq_true rfl) ⟨by decide, by decide⟩ ?_
          obtain ⟨hT_74, hF_74⟩ := hb
          refine ev_cut (pj := 88) (Lj := [some (.ref (cw_z g + 34))]) (stj := []) (σj := hp g (qIm74_X7_advance_34_txT n I A J t) A J (t.1, true)) ?_ (fun hJ_74 => ?_)
          rotate_left
          · refine ev_if_eq (pc := 74) (tgt := 84) dX7_advance_74 (by decide) (fun c_74 => ?_) (fun c_74 => ?_)
            · have hb := hT_74 c_74
              refine ev_aload_n (pc := 84) dX7_advance_84 rfl ?_
              refine ev_Vv (pc := 85) dX7_advance_85 lk_X7_54 cd_X7_scanSign ar_X7_scanSign ⟨by decide, rfl, rfl⟩ (cv_X7_scanSign_34_txT g n (qI18_X7_advance_34_txT n I A J t) A J (t.1, true)  hb) (show 34 < 120 by decide) rfl rfl rfl rfl (Nat.le_of_ble_eq_true rfl) ⟨by decide, by decide⟩ ?_
              simp only [qIm74_X7_advance_34_txT, if_pos c_74] at hJ_74
              exact ev_loc hJ_74 cw_le0
            · have hb := hF_74 c_74
              refine ev_aload_n (pc := 77) dX7_advance_77 rfl ?_
              refine ev_Vv (pc := 78) dX7_advance_78 lk_X7_51 cd_X7_scanInt ar_X7_scanInt ⟨by decide, rfl, rfl⟩ (cv_X7_scanInt_34_txT g n (qI18_X7_advance_34_txT n I A J t) A J (t.1, true)  hb) (show 34 < 120 by decide) rfl rfl rfl rfl (Nat.le_of_ble_eq_true rfl) ⟨by decide, by decide⟩ ?_
              refine ev_goto (pc := 81) (tgt := 88) dX7_advance_81 (by decide) ?_
              simp only [qIm74_X7_advance_34_txT, if_neg c_74] at hJ_74
              exact ev_loc hJ_74 cw_le0
          simp only [qIm52_X7_advance_34_txT, if_pos c_52] at hJ_52
          exact ev_loc hJ_52 cw_le0
        · have hb := hF_52 c_52
          refine ev_aload_n (pc := 55) dX7_advance_55 rfl ?_
          refine ev_Vv (pc := 56) dX7_advance_56 lk_X7_45 cd_X7_scanWord ar_X7_scanWord ⟨by decide, rfl, rfl⟩ (cv_X7_scanWord_34_txT g n (qI18_X7_advance_34_txT n I A J t) A J (t.1, true)  hb) (show 34 < 120 by decide) rfl rfl rfl rfl (Nat.le_of_ble_eq_true rfl) ⟨by decide, by decide⟩ ?_
          refine ev_goto (pc := 59) (tgt := 88) dX7_advance_59 (by decide) ?_
          simp only [qIm52_X7_advance_34_txT, if_neg c_52] at hJ_52
          exact ev_loc hJ_52 cw_le0
      simp only [qIm29_X7_advance_34_txT, if_pos c_29] at hJ_29
      exact ev_loc hJ_29 cw_le0
    · refine ev_aload_n (pc := 32) dX7_advance_32 rfl ?_
      refine ev_iconst (pc := 33) (v := 0) dX7_advance_33 (by decide) ?_
      refine tw_puti (pc := 34) (I2 := (qI34_X7_advance_34_txT n I A J t)) dX7_advance_34 fp_X7_22 (by decide) rfl rfl rfl ?_
      refine ev_goto (pc := 37) (tgt := 88) dX7_advance_37 (by decide) ?_
      simp only [qIm29_X7_advance_34_txT, if_neg c_29] at hJ_29
      exact ev_loc hJ_29 cw_le0
  exact ev_vret (pc := 88) dX7_advance_88 rfl (by decide) (by decide) (hQ _ _ ⟨rfl, rfl⟩)
