def qI18_X3_renew_46 (n : Nat) (I : Nat → Nat → Int32) (A : Nat → Nat → Int32) (J : Nat → Nat → Int64) (t : Bool × Bool) : Nat → Nat → Int32 := cw_u I 46 5 0
def pb_X3_renew_46 (n : Nat) (I : Nat → Nat → Int32) (A : Nat → Nat → Int32) (J : Nat → Nat → Int64) (t : Bool × Bool) : Prop := pb_J7_fill_53178_47 n I A J t 0 ∧ pb_J7_fill_53178_50 n I (pA_J7_fill_53178_47 n I A J t 0) J t (-1)
def pI_X3_renew_46 (n : Nat) (I : Nat → Nat → Int32) (A : Nat → Nat → Int32) (J : Nat → Nat → Int64) (t : Bool × Bool) : Nat → Nat → Int32 := (qI18_X3_renew_46 n I A J t)
def pA_X3_renew_46 (n : Nat) (I : Nat → Nat → Int32) (A : Nat → Nat → Int32) (J : Nat → Nat → Int64) (t : Bool × Bool) : Nat → Nat → Int32 := (pA_J7_fill_53178_50 n I (pA_J7_fill_53178_47 n I A J t 0) J t (-1))
set_option maxRecDepth 100000 in
set_option maxHeartbeats 4000000 in
theorem cv_X3_renew_46 (g : cw_G) (n : Nat) (I : Nat → Nat → Int32) (A : Nat → Nat → Int32) (J : Nat → Nat → Int64) (t : Bool × Bool) (hb : pb_X3_renew_46 n I A J t) : Cd g mX3_renew [(.ref (cw_z g + 46))] (hp g I A J t) none (hp g (pI_X3_renew_46 n I A J t) (pA_X3_renew_46 n I A J t) J t) := by
  unfold pb_X3_renew_46 at hb
  unfold pI_X3_renew_46 pA_X3_renew_46
  refine Cd.of rfl (Nat.le_of_ble_eq_true rfl) (ev_gen (fun Q hQ => ?_))
  refine ev_aload_n (pc := 0) dX3_renew_0 rfl ?_
  refine tv_getr (pc := 1) (d := 47) dX3_renew_1 fl_X3_9 (by decide) rfl rfl ?_
  refine ev_iconst (pc := 4) (v := 0) dX3_renew_4 (by decide) ?_
  refine ev_Sv (pc := 5) dX3_renew_5 lk_X3_34 cd_J7_fill_53178 ar_J7_fill_53178 ⟨by decide, rfl, rfl⟩ (cv_J7_fill_53178_47 g n I A J t 0 hb.1) rfl rfl (Nat.le_of_ble_eq_true rfl) ⟨by decide, by decide⟩ ?_
  replace hb := hb.2
  refine ev_aload_n (pc := 8) dX3_renew_8 rfl ?_
  refine tv_getr (pc := 9) (d := 50) dX3_renew_9 fl_X3_21 (by decide) rfl rfl ?_
  refine ev_iconst (pc := 12) (v := (-1)) dX3_renew_12 (by decide) ?_
  refine ev_Sv (pc := 13) dX3_renew_13 lk_X3_34 cd_J7_fill_53178 ar_J7_fill_53178 ⟨by decide, rfl, rfl⟩ (cv_J7_fill_53178_50 g n I (pA_J7_fill_53178_47 n I A J t 0) J t (-1) hb) rfl rfl (Nat.le_of_ble_eq_true rfl) ⟨by decide, by decide⟩ ?_
  refine ev_aload_n (pc := 16) dX3_renew_16 rfl ?_
  refine ev_iconst (pc := 17) (v := 0) dX3_renew_17 (by decide) ?_
  refine tw_puti (pc := 18) (I2 := (qI18_X3_renew_46 n I A J t)) dX3_renew_18 fp_X3_27 (by decide) rfl rfl rfl ?_
  exact ev_vret (pc := 21) dX3_renew_21 rfl (by decide) (by decide) (hQ _ _ ⟨rfl, rfl⟩)

def q6_X3_offer_46 (n : Nat) (I : Nat → Nat → Int32) (A : Nat → Nat → Int32) (J : Nat → Nat → Int64) (t : Bool × Bool) (x1 : Int32) (x2 : Int32) (x3 : Int32) (x4 : Int32) (x5 : Int32) : Int32 := ((x1 * 6) + x2)
def qA23_X3_offer_46 (n : Nat) (I : Nat → Nat → Int32) (A : Nat → Nat → Int32) (J : Nat → Nat → Int64) (t : Bool × Bool) (x1 : Int32) (x2 : Int32) (x3 : Int32) (x4 : Int32) (x5 : Int32) : Nat → Nat → Int32 := cw_u A 47 ((q6_X3_offer_46 n I A J t x1 x2 x3 x4 x5)).toNatClampNeg ((x5 * 4096) + x4)
def qA31_X3_offer_46 (n : Nat) (I : Nat → Nat → Int32) (A : Nat → Nat → Int32) (J : Nat → Nat → Int64) (t : Bool × Bool) (x1 : Int32) (x2 : Int32) (x3 : Int32) (x4 : Int32) (x5 : Int32) : Nat → Nat → Int32 := cw_u (qA23_X3_offer_46 n I A J t x1 x2 x3 x4 x5) 48 ((q6_X3_offer_46 n I A J t x1 x2 x3 x4 x5)).toNatClampNeg x3
def qA40_X3_offer_46 (n : Nat) (I : Nat → Nat → Int32) (A : Nat → Nat → Int32) (J : Nat → Nat → Int64) (t : Bool × Bool) (x1 : Int32) (x2 : Int32) (x3 : Int32) (x4 : Int32) (x5 : Int32) : Nat → Nat → Int32 := cw_u (qA31_X3_offer_46 n I A J t x1 x2 x3 x4 x5) 49 ((q6_X3_offer_46 n I A J t x1 x2 x3 x4 x5)).toNatClampNeg x4
def qs0m60_X3_offer_46 (n : Nat) (I : Nat → Nat → Int32) (A : Nat → Nat → Int32) (J : Nat → Nat → Int64) (t : Bool × Bool) (x1 : Int32) (x2 : Int32) (x3 : Int32) (x4 : Int32) (x5 : Int32) : Int32 := if ((qA40_X3_offer_46 n I A J t x1 x2 x3 x4 x5) 51 (((I 46 5) - 1)).toNatClampNeg) = x1 then 1 else 0
def qs0m45_X3_offer_46 (n : Nat) (I : Nat → Nat → Int32) (A : Nat → Nat → Int32) (J : Nat → Nat → Int64) (t : Bool × Bool) (x1 : Int32) (x2 : Int32) (x3 : Int32) (x4 : Int32) (x5 : Int32) : Int32 := if (I 46 5) ≤ 0 then 0 else (qs0m60_X3_offer_46 n I A J t x1 x2 x3 x4 x5)
def qA93_X3_offer_46 (n : Nat) (I : Nat → Nat → Int32) (A : Nat → Nat → Int32) (J : Nat → Nat → Int64) (t : Bool × Bool) (x1 : Int32) (x2 : Int32) (x3 : Int32) (x4 : Int32) (x5 : Int32) : Nat → Nat → Int32 := cw_u (qA40_X3_offer_46 n I A J t x1 x2 x3 x4 x5) 51 ((I 46 5)).toNatClampNeg x1
def qI101_X3_offer_46 (n : Nat) (I : Nat → Nat → Int32) (A : Nat → Nat → Int32) (J : Nat → Nat → Int64) (t : Bool × Bool) (x1 : Int32) (x2 : Int32) (x3 : Int32) (x4 : Int32) (x5 : Int32) : Nat → Nat → Int32 := cw_u I 46 5 ((I 46 5) + 1)
def qIm81_X3_offer_46 (n : Nat) (I : Nat → Nat → Int32) (A : Nat → Nat → Int32) (J : Nat → Nat → Int64) (t : Bool × Bool) (x1 : Int32) (x2 : Int32) (x3 : Int32) (x4 : Int32) (x5 : Int32) : Nat → Nat → Int32 := if 10 ≤ (I 46 5) then I else (qI101_X3_offer_46 n I A J t x1 x2 x3 x4 x5)
def qAm81_X3_offer_46 (n : Nat) (I : Nat → Nat → Int32) (A : Nat → Nat → Int32) (J : Nat → Nat → Int64) (t : Bool × Bool) (x1 : Int32) (x2 : Int32) (x3 : Int32) (x4 : Int32) (x5 : Int32) : Nat → Nat → Int32 := if 10 ≤ (I 46 5) then (qA40_X3_offer_46 n I A J t x1 x2 x3 x4 x5) else (qA93_X3_offer_46 n I A J t x1 x2 x3 x4 x5)
def qIm72_X3_offer_46 (n : Nat) (I : Nat → Nat → Int32) (A : Nat → Nat → Int32) (J : Nat → Nat → Int64) (t : Bool × Bool) (x1 : Int32) (x2 : Int32) (x3 : Int32) (x4 : Int32) (x5 : Int32) : Nat → Nat → Int32 := if (qs0m45_X3_offer_46 n I A J t x1 x2 x3 x4 x5) = 0 then (qIm81_X3_offer_46 n I A J t x1 x2 x3 x4 x5) else I
def qAm72_X3_offer_46 (n : Nat) (I : Nat → Nat → Int32) (A : Nat → Nat → Int32) (J : Nat → Nat → Int64) (t : Bool × Bool) (x1 : Int32) (x2 : Int32) (x3 : Int32) (x4 : Int32) (x5 : Int32) : Nat → Nat → Int32 := if (qs0m45_X3_offer_46 n I A J t x1 x2 x3 x4 x5) = 0 then (qAm81_X3_offer_46 n I A J t x1 x2 x3 x4 x5) else (qA40_X3_offer_46 n I A J t x1 x2 x3 x4 x5)
def pb_X3_offer_46 (n : Nat) (I : Nat → Nat → Int32) (A : Nat → Nat → Int32) (J : Nat → Nat → Int64) (t : Bool × Bool) (x1 : Int32) (x2 : Int32) (x3 : Int32) (x4 : Int32) (x5 : Int32) : Prop := vp_in (q6_X3_offer_46 n I A J t x1 x2 x3 x4 x5) 60 ∧ vp_in (q6_X3_offer_46 n I A J t x1 x2 x3 x4 x5) 60 ∧ vp_in (q6_X3_offer_46 n I A J t x1 x2 x3 x4 x5) 60 ∧ (¬ (I 46 5) ≤ 0 → vp_in ((I 46 5) - 1) 10) ∧ ((qs0m45_X3_offer_46 n I A J t x1 x2 x3 x4 x5) = 0 → (¬ 10 ≤ (I 46 5) → vp_in (I 46 5) 10))
def pI_X3_offer_46 (n : Nat) (I : Nat → Nat → Int32) (A : Nat → Nat → Int32) (J : Nat → Nat → Int64) (t : Bool × Bool) (x1 : Int32) (x2 : Int32) (x3 : Int32) (x4 : Int32) (x5 : Int32) : Nat → Nat → Int32 := (qIm72_X3_offer_46 n I A J t x1 x2 x3 x4 x5)
def pA_X3_offer_46 (n : Nat) (I : Nat → Nat → Int32) (A : Nat → Nat → Int32) (J : Nat → Nat → Int64) (t : Bool × Bool) (x1 : Int32) (x2 : Int32) (x3 : Int32) (x4 : Int32) (x5 : Int32) : Nat → Nat → Int32 := (qAm72_X3_offer_46 n I A J t x1 x2 x3 x4 x5)
set_option maxRecDepth 100000 in
set_option maxHeartbeats 4000000 in
theorem cv_X3_offer_46 (g : cw_G) (n : Nat) (I : Nat → Nat → Int32) (A : Nat → Nat → Int32) (J : Nat → Nat → Int64) (t : Bool × Bool) (x1 : Int32) (x2 : Int32) (x3 : Int32) (x4 : Int32) (x5 : Int32) (hb : pb_X3_offer_46 n I A J t x1 x2 x3 x4 x5) : Cd g mX3_offer [(.ref (cw_z g + 46)), (.int x1), (.int x2), (.int x3), (.int x4), (.int x5)] (hp g I A J t) none (hp g (pI_X3_offer_46 n I A J t x1 x2 x3 x4 x5) (pA_X3_offer_46 n I A J t x1 x2 x3 x4 x5) J t) := by
  unfold pb_X3_offer_46 at hb
  unfold pI_X3_offer_46 pA_X3_offer_46
  refine Cd.of rfl (Nat.le_of_ble_eq_true rfl) (ev_gen (fun Q hQ => ?_))
  refine ev_iload_n (pc := 0) dX3_offer_0 rfl ?_
  refine ev_bipush (pc := 1) (v := 6) dX3_offer_1 (by decide) ?_
  refine ev_imul (pc := 3) dX3_offer_3 ?_
  refine ev_iload_n (pc := 4) dX3_offer_4 rfl ?_
  refine ev_iadd (pc := 5) dX3_offer_5 ?_
  refine ev_is (y := (q6_X3_offer_46 n I A J t x1 x2 x3 x4 x5)) rfl ?_
  refine ev_istore_6 (pc := 6) dX3_offer_6 (by decide) rfl ?_
  refine ev_aload_n (pc := 8) dX3_offer_8 rfl ?_
  refine tv_getr (pc := 9) (d := 47) dX3_offer_9 fl_X3_9 (by decide) rfl rfl ?_
  refine ev_iload (pc := 12) dX3_offer_12 rfl ?_
  refine ev_iload (pc := 14) dX3_offer_14 rfl ?_
  refine ev_sipush (pc := 16) (v := 4096) dX3_offer_16 (by decide) ?_
  refine ev_imul (pc := 19) dX3_offer_19 ?_
  refine ev_iload (pc := 20) dX3_offer_20 rfl ?_
  refine ev_iadd (pc := 22) dX3_offer_22 ?_
  refine tw_iast (pc := 23) (A2 := (qA23_X3_offer_46 n I A J t x1 x2 x3 x4 x5)) dX3_offer_23 (by decide) rfl hb.1 rfl ?_
  replace hb := hb.2
  refine ev_aload_n (pc := 24) dX3_offer_24 rfl ?_
  refine tv_getr (pc := 25) (d := 48) dX3_offer_25 fl_X3_15 (by decide) rfl rfl ?_
  refine ev_iload (pc := 28) dX3_offer_28 rfl ?_
  refine ev_iload_n (pc := 30) dX3_offer_30 rfl ?_
  refine tw_iast (pc := 31) (A2 := (qA31_X3_offer_46 n I A J t x1 x2 x3 x4 x5)) dX3_offer_31 (by decide) rfl hb.1 rfl ?_
  replace hb := hb.2
  refine ev_aload_n (pc := 32) dX3_offer_32 rfl ?_
  refine tv_getr (pc := 33) (d := 49) dX3_offer_33 fl_X3_18 (by decide) rfl rfl ?_
  refine ev_iload (pc := 36) dX3_offer_36 rfl ?_
  refine ev_iload (pc := 38) dX3_offer_38 rfl ?_
  refine tw_iast (pc := 40) (A2 := (qA40_X3_offer_46 n I A J t x1 x2 x3 x4 x5)) dX3_offer_40 (by decide) rfl hb.1 rfl ?_
  replace hb := hb.2
  refine ev_aload_n (pc := 41) dX3_offer_41 rfl ?_
  refine tv_geti (pc := 42) dX3_offer_42 fl_X3_27 (by decide) rfl rfl ?_
  obtain ⟨hF_45, hb⟩ := hb
  refine ev_cut (pj := 68) (Lj := [some (.ref (cw_z g + 46)), some (.int x1), some (.int x2), some (.int x3), some (.int x4), some (.int x5), some (.int (q6_X3_offer_46 n I A J t x1 x2 x3 x4 x5)), none]) (stj := [(.int (qs0m45_X3_offer_46 n I A J t x1 x2 x3 x4 x5))]) (σj := hp g I (qA40_X3_offer_46 n I A J t x1 x2 x3 x4 x5) J t) ?_ (fun hJ_45 => ?_)
  rotate_left
  · refine ev_if_le (pc := 45) (tgt := 67) dX3_offer_45 (by decide) (fun c_45 => ?_) (fun c_45 => ?_)
    · refine ev_iconst (pc := 67) (v := 0) dX3_offer_67 (by decide) ?_
      simp only [qs0m45_X3_offer_46, if_pos c_45] at hJ_45
      exact ev_loc hJ_45 cw_le0
    · have hb := hF_45 c_45
      refine ev_aload_n (pc := 48) dX3_offer_48 rfl ?_
      refine tv_getr (pc := 49) (d := 51) dX3_offer_49 fl_X3_24 (by decide) rfl rfl ?_
      refine ev_aload_n (pc := 52) dX3_offer_52 rfl ?_
      refine tv_geti (pc := 53) dX3_offer_53 fl_X3_27 (by decide) rfl rfl ?_
      refine ev_iconst (pc := 56) (v := 1) dX3_offer_56 (by decide) ?_
      refine ev_isub (pc := 57) dX3_offer_57 ?_
      refine ev_iald (pc := 58) dX3_offer_58 (by decide) rfl hb ?_
      refine ev_iload_n (pc := 59) dX3_offer_59 rfl ?_
      refine ev_cut (pj := 68) (Lj := [some (.ref (cw_z g + 46)), some (.int x1), some (.int x2), some (.int x3), some (.int x4), some (.int x5), some (.int (q6_X3_offer_46 n I A J t x1 x2 x3 x4 x5)), none]) (stj := [(.int (qs0m60_X3_offer_46 n I A J t x1 x2 x3 x4 x5))]) (σj := hp g I (qA40_X3_offer_46 n I A J t x1 x2 x3 x4 x5) J t) ?_ (fun hJ_60 => ?_)
      rotate_left
      · refine ev_icmp_ne (pc := 60) (tgt := 67) dX3_offer_60 (by decide) (fun c_60 => ?_) (fun c_60 => ?_)
        · refine ev_iconst (pc := 67) (v := 0) dX3_offer_67 (by decide) ?_
          simp only [qs0m60_X3_offer_46, if_neg c_60] at hJ_60
          exact ev_loc hJ_60 cw_le0
        · refine ev_iconst (pc := 63) (v := 1) dX3_offer_63 (by decide) ?_
          refine ev_goto (pc := 64) (tgt := 68) dX3_offer_64 (by decide) ?_
          simp only [qs0m60_X3_offer_46, if_pos c_60] at hJ_60
          exact ev_loc hJ_60 cw_le0
      simp only [qs0m45_X3_offer_46, if_neg c_45] at hJ_45
      exact ev_loc hJ_45 cw_le0
  refine ev_istore_7 (pc := 68) dX3_offer_68 (by decide) rfl ?_
  refine ev_iload (pc := 70) dX3_offer_70 rfl ?_
  have hF_72 := hb
  refine ev_cut (pj := 104) (Lj := [some (.ref (cw_z g + 46)), some (.int x1), some (.int x2), some (.int x3), some (.int x4), some (.int x5), some (.int (q6_X3_offer_46 n I A J t x1 x2 x3 x4 x5)), some (.int (qs0m45_X3_offer_46 n I A J t x1 x2 x3 x4 x5))]) (stj := []) (σj := hp g (qIm72_X3_offer_46 n I A J t x1 x2 x3 x4 x5) (qAm72_X3_offer_46 n I A J t x1 x2 x3 x4 x5) J t) ?_ (fun hJ_72 => ?_)
  rotate_left
  · refine ev_if_ne (pc := 72) (tgt := 104) dX3_offer_72 (by decide) (fun c_72 => ?_) (fun c_72 => ?_)
    · simp only [qIm72_X3_offer_46, qAm72_X3_offer_46, if_neg c_72] at hJ_72
      exact ev_loc hJ_72 cw_le0
    · have hb := hF_72 c_72
      refine ev_aload_n (pc := 75) dX3_offer_75 rfl ?_
      refine tv_geti (pc := 76) dX3_offer_76 fl_X3_27 (by decide) rfl rfl ?_
      refine ev_bipush (pc := 79) (v := 10) dX3_offer_79 (by decide) ?_
      have hF_81 := hb
      refine ev_cut (pj := 104) (Lj := [some (.ref (cw_z g + 46)), some (.int x1), some (.int x2), some (.int x3), some (.int x4), some (.int x5), some (.int (q6_X3_offer_46 n I A J t x1 x2 x3 x4 x5)), some (.int (qs0m45_X3_offer_46 n I A J t x1 x2 x3 x4 x5))]) (stj := []) (σj := hp g (qIm81_X3_offer_46 n I A J t x1 x2 x3 x4 x5) (qAm81_X3_offer_46 n I A J t x1 x2 x3 x4 x5) J t) ?_ (fun hJ_81 => ?_)
      rotate_left
      · refine ev_icmp_ge (pc := 81) (tgt := 104) dX3_offer_81 (by decide) (fun c_81 => ?_) (fun c_81 => ?_)
        · simp only [qIm81_X3_offer_46, qAm81_X3_offer_46, if_pos c_81] at hJ_81
          exact ev_loc hJ_81 cw_le0
        · have hb := hF_81 c_81
          refine ev_aload_n (pc := 84) dX3_offer_84 rfl ?_
          refine tv_getr (pc := 85) (d := 51) dX3_offer_85 fl_X3_24 (by decide) rfl rfl ?_
          refine ev_aload_n (pc := 88) dX3_offer_88 rfl ?_
          refine tv_geti (pc := 89) dX3_offer_89 fl_X3_27 (by decide) rfl rfl ?_
          refine ev_iload_n (pc := 92) dX3_offer_92 rfl ?_
          refine tw_iast (pc := 93) (A2 := (qA93_X3_offer_46 n I A J t x1 x2 x3 x4 x5)) dX3_offer_93 (by decide) rfl hb rfl ?_
          refine ev_aload_n (pc := 94) dX3_offer_94 rfl ?_
          refine ev_dup (pc := 95) dX3_offer_95 rfl ?_
          refine tv_geti (pc := 96) dX3_offer_96 fl_X3_27 (by decide) rfl rfl ?_
          refine ev_iconst (pc := 99) (v := 1) dX3_offer_99 (by decide) ?_
          refine ev_iadd (pc := 100) dX3_offer_100 ?_
          refine tw_puti (pc := 101) (I2 := (qI101_X3_offer_46 n I A J t x1 x2 x3 x4 x5)) dX3_offer_101 fp_X3_27 (by decide) rfl rfl rfl ?_
          simp only [qIm81_X3_offer_46, qAm81_X3_offer_46, if_neg c_81] at hJ_81
          exact ev_loc hJ_81 cw_le0
      simp only [qIm72_X3_offer_46, qAm72_X3_offer_46, if_pos c_72] at hJ_72
      exact ev_loc hJ_72 cw_le0
  exact ev_vret (pc := 104) dX3_offer_104 rfl (by decide) (by decide) (hQ _ _ ⟨rfl, rfl⟩)

def q16_X3_gainBy_46 (n : Nat) (I : Nat → Nat → Int32) (A : Nat → Nat → Int32) (J : Nat → Nat → Int64) (t : Bool × Bool) (x1 : Int32) (x2 : Int32) (x3 : Int32) : Int32 := (A 47 ((((A 51 (x1).toNatClampNeg) * 6) + x3)).toNatClampNeg)
def pb_X3_gainBy_46 (n : Nat) (I : Nat → Nat → Int32) (A : Nat → Nat → Int32) (J : Nat → Nat → Int64) (t : Bool × Bool) (x1 : Int32) (x2 : Int32) (x3 : Int32) : Prop := vp_in x1 10 ∧ vp_in (((A 51 (x1).toNatClampNeg) * 6) + x3) 60 ∧ (¬ (q16_X3_gainBy_46 n I A J t x1 x2 x3) = 0 → (¬ ((x2 >>> (x3 &&& 31)) &&& 1) = 1 → vp_in (((x1 + 1) <<< (6 &&& 31)) + (x2 ||| ((1 : Int32) <<< (x3 &&& 31)))) 704))
def px_X3_gainBy_46 (n : Nat) (I : Nat → Nat → Int32) (A : Nat → Nat → Int32) (J : Nat → Nat → Int64) (t : Bool × Bool) (x1 : Int32) (x2 : Int32) (x3 : Int32) : Int32 := (if (q16_X3_gainBy_46 n I A J t x1 x2 x3) = 0 then (-1) else (if ((x2 >>> (x3 &&& 31)) &&& 1) = 1 then (-1) else ((q16_X3_gainBy_46 n I A J t x1 x2 x3) + (A 52 ((((x1 + 1) <<< (6 &&& 31)) + (x2 ||| ((1 : Int32) <<< (x3 &&& 31))))).toNatClampNeg))))
set_option maxRecDepth 100000 in
set_option maxHeartbeats 4000000 in
theorem cv_X3_gainBy_46 (g : cw_G) (n : Nat) (I : Nat → Nat → Int32) (A : Nat → Nat → Int32) (J : Nat → Nat → Int64) (t : Bool × Bool) (x1 : Int32) (x2 : Int32) (x3 : Int32) (hb : pb_X3_gainBy_46 n I A J t x1 x2 x3) : Cd g mX3_gainBy [(.ref (cw_z g + 46)), (.int x1), (.int x2), (.int x3)] (hp g I A J t) (some (.int (px_X3_gainBy_46 n I A J t x1 x2 x3))) (hp g I A J t) := by
  unfold pb_X3_gainBy_46 at hb
  unfold px_X3_gainBy_46
  refine Cd.of rfl (Nat.le_of_ble_eq_true rfl) (ev_gen (fun Q hQ => ?_))
  refine ev_aload_n (pc := 0) dX3_gainBy_0 rfl ?_
  refine tv_getr (pc := 1) (d := 47) dX3_gainBy_1 fl_X3_9 (by decide) rfl rfl ?_
  refine ev_aload_n (pc := 4) dX3_gainBy_4 rfl ?_
  refine tv_getr (pc := 5) (d := 51) dX3_gainBy_5 fl_X3_24 (by decide) rfl rfl ?_
  refine ev_iload_n (pc := 8) dX3_gainBy_8 rfl ?_
  refine ev_iald (pc := 9) dX3_gainBy_9 (by decide) rfl hb.1 ?_
  replace hb := hb.2
  refine ev_bipush (pc := 10) (v := 6) dX3_gainBy_10 (by decide) ?_
  refine ev_imul (pc := 12) dX3_gainBy_12 ?_
  refine ev_iload_n (pc := 13) dX3_gainBy_13 rfl ?_
  refine ev_iadd (pc := 14) dX3_gainBy_14 ?_
  refine ev_iald (pc := 15) dX3_gainBy_15 (by decide) rfl hb.1 ?_
  replace hb := hb.2
  refine ev_is (y := (q16_X3_gainBy_46 n I A J t x1 x2 x3)) rfl ?_
  refine ev_istore_4 (pc := 16) dX3_gainBy_16 (by decide) rfl ?_
  refine ev_iload (pc := 18) dX3_gainBy_18 rfl ?_
  have hF_20 := hb
  refine ev_if_eq (pc := 20) (tgt := 32) dX3_gainBy_20 (by decide) (fun c_20 => ?_) (fun c_20 => ?_)
  · try simp only [if_pos c_20] at hQ
    refine ev_iconst (pc := 32) (v := (-1)) dX3_gainBy_32 (by decide) ?_
    exact ev_iret (pc := 33) dX3_gainBy_33 rfl (by decide) (by decide) (hQ _ _ ⟨rfl, rfl⟩)
  · have hb := hF_20 c_20
    try simp only [if_neg c_20] at hQ
    refine ev_iload_n (pc := 23) dX3_gainBy_23 rfl ?_
    refine ev_iload_n (pc := 24) dX3_gainBy_24 rfl ?_
    refine ev_ishr (pc := 25) dX3_gainBy_25 ?_
    refine ev_iconst (pc := 26) (v := 1) dX3_gainBy_26 (by decide) ?_
    refine ev_iand (pc := 27) dX3_gainBy_27 ?_
    refine ev_iconst (pc := 28) (v := 1) dX3_gainBy_28 (by decide) ?_
    have hT_29 := hb
    refine ev_icmp_ne (pc := 29) (tgt := 34) dX3_gainBy_29 (by decide) (fun c_29 => ?_) (fun c_29 => ?_)
    · have hb := hT_29 c_29
      try simp only [if_neg c_29] at hQ
      refine ev_iload (pc := 34) dX3_gainBy_34 rfl ?_
      refine ev_aload_n (pc := 36) dX3_gainBy_36 rfl ?_
      refine tv_getr (pc := 37) (d := 52) dX3_gainBy_37 fl_X3_31 (by decide) rfl rfl ?_
      refine ev_iload_n (pc := 40) dX3_gainBy_40 rfl ?_
      refine ev_iconst (pc := 41) (v := 1) dX3_gainBy_41 (by decide) ?_
      refine ev_iadd (pc := 42) dX3_gainBy_42 ?_
      refine ev_bipush (pc := 43) (v := 6) dX3_gainBy_43 (by decide) ?_
      refine ev_ishl (pc := 45) dX3_gainBy_45 ?_
      refine ev_iload_n (pc := 46) dX3_gainBy_46 rfl ?_
      refine ev_iconst (pc := 47) (v := 1) dX3_gainBy_47 (by decide) ?_
      refine ev_iload_n (pc := 48) dX3_gainBy_48 rfl ?_
      refine ev_ishl (pc := 49) dX3_gainBy_49 ?_
      refine ev_ior (pc := 50) dX3_gainBy_50 ?_
      refine ev_iadd (pc := 51) dX3_gainBy_51 ?_
      refine ev_iald (pc := 52) dX3_gainBy_52 (by decide) rfl hb ?_
      refine ev_iadd (pc := 53) dX3_gainBy_53 ?_
      exact ev_iret (pc := 54) dX3_gainBy_54 rfl (by decide) (by decide) (hQ _ _ ⟨rfl, rfl⟩)
    · try simp only [if_pos c_29] at hQ
      refine ev_iconst (pc := 32) (v := (-1)) dX3_gainBy_32 (by decide) ?_
      exact ev_iret (pc := 33) dX3_gainBy_33 rfl (by decide) (by decide) (hQ _ _ ⟨rfl, rfl⟩)

def q13_X3_bestFrom_46 (n : Nat) (I : Nat → Nat → Int32) (A : Nat → Nat → Int32) (J : Nat → Nat → Int64) (t : Bool × Bool) (x1 : Int32) (x2 : Int32) (x3 : Int32) : Int32 := (A 52 ((((x1 + 1) <<< (6 &&& 31)) + x2)).toNatClampNeg)
def q37_X3_bestFrom_46 (n : Nat) (I : Nat → Nat → Int32) (A : Nat → Nat → Int32) (J : Nat → Nat → Int64) (t : Bool × Bool) (x1 : Int32) (x2 : Int32) (x3 : Int32) (v18_4 : Int32) (v18_5 : Int32) : Int32 := (px_J9_max_7cf53 n I A J t v18_4 (px_X3_gainBy_46 n I A J t x1 x2 v18_5))
def q39_X3_bestFrom_46 (n : Nat) (I : Nat → Nat → Int32) (A : Nat → Nat → Int32) (J : Nat → Nat → Int64) (t : Bool × Bool) (x1 : Int32) (x2 : Int32) (x3 : Int32) (v18_4 : Int32) (v18_5 : Int32) : Int32 := v18_5 + 1
def lp_X3_bestFrom_46_18 (n : Nat) (I : Nat → Nat → Int32) (A : Nat → Nat → Int32) (J : Nat → Nat → Int64) (t : Bool × Bool) (x1 : Int32) (x2 : Int32) (x3 : Int32) : Nat → (Int32) → (Int32) → Int32 × Int32
  | 0, v18_4, v18_5 => (v18_4, v18_5)
  | f + 1, v18_4, v18_5 => if x3 ≤ v18_5 then (v18_4, v18_5) else lp_X3_bestFrom_46_18 n I A J t x1 x2 x3 f (q37_X3_bestFrom_46 n I A J t x1 x2 x3 v18_4 v18_5) (q39_X3_bestFrom_46 n I A J t x1 x2 x3 v18_4 v18_5)
def lb_X3_bestFrom_46_18 (n : Nat) (I : Nat → Nat → Int32) (A : Nat → Nat → Int32) (J : Nat → Nat → Int64) (t : Bool × Bool) (x1 : Int32) (x2 : Int32) (x3 : Int32) : Nat → (Int32) → (Int32) → Prop
  | 0, _, _ => False
  | f + 1, v18_4, v18_5 => (¬ x3 ≤ v18_5 → pb_X3_gainBy_46 n I A J t x1 x2 v18_5 ∧ lb_X3_bestFrom_46_18 n I A J t x1 x2 x3 f (q37_X3_bestFrom_46 n I A J t x1 x2 x3 v18_4 v18_5) (q39_X3_bestFrom_46 n I A J t x1 x2 x3 v18_4 v18_5))
def q4w18_X3_bestFrom_46 (n : Nat) (I : Nat → Nat → Int32) (A : Nat → Nat → Int32) (J : Nat → Nat → Int64) (t : Bool × Bool) (x1 : Int32) (x2 : Int32) (x3 : Int32) : Int32 := (lp_X3_bestFrom_46_18 n I A J t x1 x2 x3 n (q13_X3_bestFrom_46 n I A J t x1 x2 x3) 0).1
def q5w18_X3_bestFrom_46 (n : Nat) (I : Nat → Nat → Int32) (A : Nat → Nat → Int32) (J : Nat → Nat → Int64) (t : Bool × Bool) (x1 : Int32) (x2 : Int32) (x3 : Int32) : Int32 := (lp_X3_bestFrom_46_18 n I A J t x1 x2 x3 n (q13_X3_bestFrom_46 n I A J t x1 x2 x3) 0).2
def pb_X3_bestFrom_46 (n : Nat) (I : Nat → Nat → Int32) (A : Nat → Nat → Int32) (J : Nat → Nat → Int64) (t : Bool × Bool) (x1 : Int32) (x2 : Int32) (x3 : Int32) : Prop := vp_in (((x1 + 1) <<< (6 &&& 31)) + x2) 704 ∧ lb_X3_bestFrom_46_18 n I A J t x1 x2 x3 n (q13_X3_bestFrom_46 n I A J t x1 x2 x3) 0
def px_X3_bestFrom_46 (n : Nat) (I : Nat → Nat → Int32) (A : Nat → Nat → Int32) (J : Nat → Nat → Int64) (t : Bool × Bool) (x1 : Int32) (x2 : Int32) (x3 : Int32) : Int32 := (q4w18_X3_bestFrom_46 n I A J t x1 x2 x3)
set_option maxRecDepth 100000 in
set_option maxHeartbeats 4000000 in
theorem lt_X3_bestFrom_46_18 (g : cw_G) (n : Nat) (I : Nat → Nat → Int32) (A : Nat → Nat → Int32) (J : Nat → Nat → Int64) (t : Bool × Bool) (x1 : Int32) (x2 : Int32) (x3 : Int32) {Q : Option Value → cw_H → Prop} : ∀ (f : Nat) (v18_4 : Int32) (v18_5 : Int32) (w0 : Int32) (w1 : Int32), lb_X3_bestFrom_46_18 n I A J t x1 x2 x3 f v18_4 v18_5 → (lp_X3_bestFrom_46_18 n I A J t x1 x2 x3 f v18_4 v18_5).1 = w0 → (lp_X3_bestFrom_46_18 n I A J t x1 x2 x3 f v18_4 v18_5).2 = w1 → Ev g mX3_bestFrom 0 0 45 [some (.ref (cw_z g + 46)), some (.int x1), some (.int x2), some (.int x3), some (.int w0), some (.int w1)] [] (hp g I A J t) Q → Ev g mX3_bestFrom 0 0 18 [some (.ref (cw_z g + 46)), some (.int x1), some (.int x2), some (.int x3), some (.int v18_4), some (.int v18_5)] [] (hp g I A J t) Q := by
  intro f
  induction f with
  | zero =>
    intro v18_4 v18_5 w0 w1 hb
    exact hb.elim
  | succ f ih =>
    intro v18_4 v18_5 w0 w1 hb h0 h1 hE
    rw [lb_X3_bestFrom_46_18] at hb
    rw [lp_X3_bestFrom_46_18] at h0 h1
    refine ev_iload (pc := 18) dX3_bestFrom_18 rfl ?_
    refine ev_iload_n (pc := 20) dX3_bestFrom_20 rfl ?_
    have hF_21 := hb
    refine ev_icmp_ge (pc := 21) (tgt := 45) dX3_bestFrom_21 (by decide) (fun c_21 => ?_) (fun c_21 => ?_)
    · try simp only [if_pos c_21] at h0
      try simp only [if_pos c_21] at h1
      subst h0
      subst h1
      exact ev_loc hE cw_le0
    · have hb := hF_21 c_21
      try simp only [if_neg c_21] at h0
      try simp only [if_neg c_21] at h1
      refine ev_iload (pc := 24) dX3_bestFrom_24 rfl ?_
      refine ev_aload_n (pc := 26) dX3_bestFrom_26 rfl ?_
      refine ev_iload_n (pc := 27) dX3_bestFrom_27 rfl ?_
      refine ev_iload_n (pc := 28) dX3_bestFrom_28 rfl ?_
      refine ev_iload (pc := 29) dX3_bestFrom_29 rfl ?_
      refine ev_Vi (pc := 31) dX3_bestFrom_31 lk_X3_48 cd_X3_gainBy ar_X3_gainBy ⟨by decide, rfl, rfl⟩ (cv_X3_gainBy_46 g n I A J t x1 x2 v18_5 hb.1) (show 46 < 120 by decide) rfl rfl rfl rfl (Nat.le_of_ble_eq_true rfl) ⟨by decide, by decide⟩ ?_
      replace hb := hb.2
      refine ev_Si (pc := 34) dX3_bestFrom_34 lk_X3_51 cd_J9_max_7cf53 ar_J9_max_7cf53 ⟨by decide, rfl, rfl⟩ (cv_J9_max_7cf53 g n I A J t v18_4 (px_X3_gainBy_46 n I A J t x1 x2 v18_5)) rfl rfl (Nat.le_of_ble_eq_true rfl) ⟨by decide, by decide⟩ ?_
      refine ev_is (y := (q37_X3_bestFrom_46 n I A J t x1 x2 x3 v18_4 v18_5)) rfl ?_
      refine ev_istore_4 (pc := 37) dX3_bestFrom_37 (by decide) rfl ?_
      refine ev_iinc_5 (pc := 39) (v := (q39_X3_bestFrom_46 n I A J t x1 x2 x3 v18_4 v18_5)) dX3_bestFrom_39 (by decide) rfl rfl ?_
      refine ev_goto (pc := 42) (tgt := 18) dX3_bestFrom_42 (by decide) ?_
      exact ev_loc (ih (q37_X3_bestFrom_46 n I A J t x1 x2 x3 v18_4 v18_5) (q39_X3_bestFrom_46 n I A J t x1 x2 x3 v18_4 v18_5) w0 w1 hb h0 h1 hE) cw_le0

set_option maxRecDepth 100000 in
set_option maxHeartbeats 4000000 in
theorem cv_X3_bestFrom_46 (g : cw_G) (n : Nat) (I : Nat → Nat → Int32) (A : Nat → Nat → Int32) (J : Nat → Nat → Int64) (t : Bool × Bool) (x1 : Int32) (x2 : Int32) (x3 : Int32) (hb : pb_X3_bestFrom_46 n I A J t x1 x2 x3) : Cd g mX3_bestFrom [(.ref (cw_z g + 46)), (.int x1), (.int x2), (.int x3)] (hp g I A J t) (some (.int (px_X3_bestFrom_46 n I A J t x1 x2 x3))) (hp g I A J t) := by
  unfold pb_X3_bestFrom_46 at hb
  unfold px_X3_bestFrom_46
  refine Cd.of rfl (Nat.le_of_ble_eq_true rfl) (ev_gen (fun Q hQ => ?_))
  refine ev_aload_n (pc := 0) dX3_bestFrom_0 rfl ?_
  refine tv_getr (pc := 1) (d := 52) dX3_bestFrom_1 fl_X3_31 (by decide) rfl rfl ?_
  refine ev_iload_n (pc := 4) dX3_bestFrom_4 rfl ?_
  refine ev_iconst (pc := 5) (v := 1) dX3_bestFrom_5 (by decide) ?_
  refine ev_iadd (pc := 6) dX3_bestFrom_6 ?_
  refine ev_bipush (pc := 7) (v := 6) dX3_bestFrom_7 (by decide) ?_
  refine ev_ishl (pc := 9) dX3_bestFrom_9 ?_
  refine ev_iload_n (pc := 10) dX3_bestFrom_10 rfl ?_
  refine ev_iadd (pc := 11) dX3_bestFrom_11 ?_
  refine ev_iald (pc := 12) dX3_bestFrom_12 (by decide) rfl hb.1 ?_
  replace hb := hb.2
  refine ev_is (y := (q13_X3_bestFrom_46 n I A J t x1 x2 x3)) rfl ?_
  refine ev_istore_4 (pc := 13) dX3_bestFrom_13 (by decide) rfl ?_
  refine ev_iconst (pc := 15) (v := 0) dX3_bestFrom_15 (by decide) ?_
  refine ev_istore_5 (pc := 16) dX3_bestFrom_16 (by decide) rfl ?_
  refine lt_X3_bestFrom_46_18 g n I A J t x1 x2 x3 n (q13_X3_bestFrom_46 n I A J t x1 x2 x3) 0 (q4w18_X3_bestFrom_46 n I A J t x1 x2 x3) (q5w18_X3_bestFrom_46 n I A J t x1 x2 x3) hb rfl rfl ?_
  refine ev_iload (pc := 45) dX3_bestFrom_45 rfl ?_
  exact ev_iret (pc := 47) dX3_bestFrom_47 rfl (by decide) (by decide) (hQ _ _ ⟨rfl, rfl⟩)

def q23_X3_choose_46 (n : Nat) (I : Nat → Nat → Int32) (A : Nat → Nat → Int32) (J : Nat → Nat → Int64) (t : Bool × Bool) (x1 : Int32) (A4 : Nat → Nat → Int32) (v4_2 : Int32) (v4_3 : Int32) : Int32 := (A4 52 (((v4_3 <<< (6 &&& 31)) + v4_2)).toNatClampNeg)
def qs0m53_X3_choose_46 (n : Nat) (I : Nat → Nat → Int32) (A : Nat → Nat → Int32) (J : Nat → Nat → Int64) (t : Bool × Bool) (x1 : Int32) (A4 : Nat → Nat → Int32) (v4_2 : Int32) (v4_3 : Int32) (v31_5 : Int32) (v31_6 : Int32) : Int32 := if (px_X3_gainBy_46 n I A4 J t v4_3 v4_2 v31_6) = (q23_X3_choose_46 n I A J t x1 A4 v4_2 v4_3) then v31_6 else (-1)
def q64_X3_choose_46 (n : Nat) (I : Nat → Nat → Int32) (A : Nat → Nat → Int32) (J : Nat → Nat → Int64) (t : Bool × Bool) (x1 : Int32) (A4 : Nat → Nat → Int32) (v4_2 : Int32) (v4_3 : Int32) (v31_5 : Int32) (v31_6 : Int32) : Int32 := v31_6 + 1
def lp_X3_choose_46_31 (n : Nat) (I : Nat → Nat → Int32) (A : Nat → Nat → Int32) (J : Nat → Nat → Int64) (t : Bool × Bool) (x1 : Int32) (A4 : Nat → Nat → Int32) (v4_2 : Int32) (v4_3 : Int32) : Nat → (Int32) → (Int32) → Int32 × Int32
  | 0, v31_5, v31_6 => (v31_5, v31_6)
  | f + 1, v31_5, v31_6 => if x1 ≤ v31_6 then (v31_5, v31_6) else if v31_5 = (-1) then lp_X3_choose_46_31 n I A J t x1 A4 v4_2 v4_3 f (qs0m53_X3_choose_46 n I A J t x1 A4 v4_2 v4_3 v31_5 v31_6) (q64_X3_choose_46 n I A J t x1 A4 v4_2 v4_3 v31_5 v31_6) else (v31_5, v31_6)
def lb_X3_choose_46_31 (n : Nat) (I : Nat → Nat → Int32) (A : Nat → Nat → Int32) (J : Nat → Nat → Int64) (t : Bool × Bool) (x1 : Int32) (A4 : Nat → Nat → Int32) (v4_2 : Int32) (v4_3 : Int32) : Nat → (Int32) → (Int32) → Prop
  | 0, _, _ => False
  | f + 1, v31_5, v31_6 => (¬ x1 ≤ v31_6 → (v31_5 = (-1) → pb_X3_gainBy_46 n I A4 J t v4_3 v4_2 v31_6 ∧ lb_X3_choose_46_31 n I A J t x1 A4 v4_2 v4_3 f (qs0m53_X3_choose_46 n I A J t x1 A4 v4_2 v4_3 v31_5 v31_6) (q64_X3_choose_46 n I A J t x1 A4 v4_2 v4_3 v31_5 v31_6)))
def q5w31_X3_choose_46 (n : Nat) (I : Nat → Nat → Int32) (A : Nat → Nat → Int32) (J : Nat → Nat → Int64) (t : Bool × Bool) (x1 : Int32) (A4 : Nat → Nat → Int32) (v4_2 : Int32) (v4_3 : Int32) : Int32 := (lp_X3_choose_46_31 n I A J t x1 A4 v4_2 v4_3 n (-1) 0).1
def q6w31_X3_choose_46 (n : Nat) (I : Nat → Nat → Int32) (A : Nat → Nat → Int32) (J : Nat → Nat → Int64) (t : Bool × Bool) (x1 : Int32) (A4 : Nat → Nat → Int32) (v4_2 : Int32) (v4_3 : Int32) : Int32 := (lp_X3_choose_46_31 n I A J t x1 A4 v4_2 v4_3 n (-1) 0).2
def qA88_X3_choose_46 (n : Nat) (I : Nat → Nat → Int32) (A : Nat → Nat → Int32) (J : Nat → Nat → Int64) (t : Bool × Bool) (x1 : Int32) (A4 : Nat → Nat → Int32) (v4_2 : Int32) (v4_3 : Int32) : Nat → Nat → Int32 := cw_u A4 50 ((A4 51 (v4_3).toNatClampNeg)).toNatClampNeg (q5w31_X3_choose_46 n I A J t x1 A4 v4_2 v4_3)
def q95_X3_choose_46 (n : Nat) (I : Nat → Nat → Int32) (A : Nat → Nat → Int32) (J : Nat → Nat → Int64) (t : Bool × Bool) (x1 : Int32) (A4 : Nat → Nat → Int32) (v4_2 : Int32) (v4_3 : Int32) : Int32 := (v4_2 ||| ((1 : Int32) <<< ((q5w31_X3_choose_46 n I A J t x1 A4 v4_2 v4_3) &&& 31)))
def qAm73_X3_choose_46 (n : Nat) (I : Nat → Nat → Int32) (A : Nat → Nat → Int32) (J : Nat → Nat → Int64) (t : Bool × Bool) (x1 : Int32) (A4 : Nat → Nat → Int32) (v4_2 : Int32) (v4_3 : Int32) : Nat → Nat → Int32 := if (q5w31_X3_choose_46 n I A J t x1 A4 v4_2 v4_3) = (-1) then A4 else (qA88_X3_choose_46 n I A J t x1 A4 v4_2 v4_3)
def ql2m73_X3_choose_46 (n : Nat) (I : Nat → Nat → Int32) (A : Nat → Nat → Int32) (J : Nat → Nat → Int64) (t : Bool × Bool) (x1 : Int32) (A4 : Nat → Nat → Int32) (v4_2 : Int32) (v4_3 : Int32) : Int32 := if (q5w31_X3_choose_46 n I A J t x1 A4 v4_2 v4_3) = (-1) then v4_2 else (q95_X3_choose_46 n I A J t x1 A4 v4_2 v4_3)
def q96_X3_choose_46 (n : Nat) (I : Nat → Nat → Int32) (A : Nat → Nat → Int32) (J : Nat → Nat → Int64) (t : Bool × Bool) (x1 : Int32) (A4 : Nat → Nat → Int32) (v4_2 : Int32) (v4_3 : Int32) : Int32 := v4_3 + 1
def lp_X3_choose_46_4 (n : Nat) (I : Nat → Nat → Int32) (A : Nat → Nat → Int32) (J : Nat → Nat → Int64) (t : Bool × Bool) (x1 : Int32) : Nat → (Nat → Nat → Int32) → (Int32) → (Int32) → (Nat → Nat → Int32) × Int32 × Int32
  | 0, A4, v4_2, v4_3 => (A4, v4_2, v4_3)
  | f + 1, A4, v4_2, v4_3 => if (I 46 5) ≤ v4_3 then (A4, v4_2, v4_3) else lp_X3_choose_46_4 n I A J t x1 f (qAm73_X3_choose_46 n I A J t x1 A4 v4_2 v4_3) (ql2m73_X3_choose_46 n I A J t x1 A4 v4_2 v4_3) (q96_X3_choose_46 n I A J t x1 A4 v4_2 v4_3)
def lb_X3_choose_46_4 (n : Nat) (I : Nat → Nat → Int32) (A : Nat → Nat → Int32) (J : Nat → Nat → Int64) (t : Bool × Bool) (x1 : Int32) : Nat → (Nat → Nat → Int32) → (Int32) → (Int32) → Prop
  | 0, _, _, _ => False
  | f + 1, A4, v4_2, v4_3 => (¬ (I 46 5) ≤ v4_3 → vp_in ((v4_3 <<< (6 &&& 31)) + v4_2) 704 ∧ lb_X3_choose_46_31 n I A J t x1 A4 v4_2 v4_3 n (-1) 0 ∧ (¬ (q5w31_X3_choose_46 n I A J t x1 A4 v4_2 v4_3) = (-1) → vp_in v4_3 10 ∧ vp_in (A4 51 (v4_3).toNatClampNeg) 10) ∧ lb_X3_choose_46_4 n I A J t x1 f (qAm73_X3_choose_46 n I A J t x1 A4 v4_2 v4_3) (ql2m73_X3_choose_46 n I A J t x1 A4 v4_2 v4_3) (q96_X3_choose_46 n I A J t x1 A4 v4_2 v4_3))
def qAw4_X3_choose_46 (n : Nat) (I : Nat → Nat → Int32) (A : Nat → Nat → Int32) (J : Nat → Nat → Int64) (t : Bool × Bool) (x1 : Int32) : Nat → Nat → Int32 := (lp_X3_choose_46_4 n I A J t x1 n A 0 0).1
def q2w4_X3_choose_46 (n : Nat) (I : Nat → Nat → Int32) (A : Nat → Nat → Int32) (J : Nat → Nat → Int64) (t : Bool × Bool) (x1 : Int32) : Int32 := (lp_X3_choose_46_4 n I A J t x1 n A 0 0).2.1
def q3w4_X3_choose_46 (n : Nat) (I : Nat → Nat → Int32) (A : Nat → Nat → Int32) (J : Nat → Nat → Int64) (t : Bool × Bool) (x1 : Int32) : Int32 := (lp_X3_choose_46_4 n I A J t x1 n A 0 0).2.2
def pb_X3_choose_46 (n : Nat) (I : Nat → Nat → Int32) (A : Nat → Nat → Int32) (J : Nat → Nat → Int64) (t : Bool × Bool) (x1 : Int32) : Prop := lb_X3_choose_46_4 n I A J t x1 n A 0 0
def pA_X3_choose_46 (n : Nat) (I : Nat → Nat → Int32) (A : Nat → Nat → Int32) (J : Nat → Nat → Int64) (t : Bool × Bool) (x1 : Int32) : Nat → Nat → Int32 := (qAw4_X3_choose_46 n I A J t x1)
set_option maxRecDepth 100000 in
set_option maxHeartbeats 4000000 in
theorem lt_X3_choose_46_31 (g : cw_G) (n : Nat) (I : Nat → Nat → Int32) (A : Nat → Nat → Int32) (J : Nat → Nat → Int64) (t : Bool × Bool) (x1 : Int32) (A4 : Nat → Nat → Int32) (v4_2 : Int32) (v4_3 : Int32) {Q : Option Value → cw_H → Prop} : ∀ (f : Nat) (v31_5 : Int32) (v31_6 : Int32) (w0 : Int32) (w1 : Int32), lb_X3_choose_46_31 n I A J t x1 A4 v4_2 v4_3 f v31_5 v31_6 → (lp_X3_choose_46_31 n I A J t x1 A4 v4_2 v4_3 f v31_5 v31_6).1 = w0 → (lp_X3_choose_46_31 n I A J t x1 A4 v4_2 v4_3 f v31_5 v31_6).2 = w1 → Ev g mX3_choose 0 0 70 [some (.ref (cw_z g + 46)), some (.int x1), some (.int v4_2), some (.int v4_3), some (.int (q23_X3_choose_46 n I A J t x1 A4 v4_2 v4_3)), some (.int w0), some (.int w1)] [] (hp g I A4 J t) Q → Ev g mX3_choose 0 0 31 [some (.ref (cw_z g + 46)), some (.int x1), some (.int v4_2), some (.int v4_3), some (.int (q23_X3_choose_46 n I A J t x1 A4 v4_2 v4_3)), some (.int v31_5), some (.int v31_6)] [] (hp g I A4 J t) Q := by
  intro f
  induction f with
  | zero =>
    intro v31_5 v31_6 w0 w1 hb
    exact hb.elim
  | succ f ih =>
    intro v31_5 v31_6 w0 w1 hb h0 h1 hE
    rw [lb_X3_choose_46_31] at hb
    rw [lp_X3_choose_46_31] at h0 h1
    refine ev_iload (pc := 31) dX3_choose_31 rfl ?_
    refine ev_iload_n (pc := 33) dX3_choose_33 rfl ?_
    have hF_34 := hb
    refine ev_icmp_ge (pc := 34) (tgt := 70) dX3_choose_34 (by decide) (fun c_34 => ?_) (fun c_34 => ?_)
    · try simp only [if_pos c_34] at h0
      try simp only [if_pos c_34] at h1
      subst h0
      subst h1
      exact ev_loc hE cw_le0
    · have hb := hF_34 c_34
      try simp only [if_neg c_34] at h0
      try simp only [if_neg c_34] at h1
      refine ev_iload (pc := 37) dX3_choose_37 rfl ?_
      refine ev_iconst (pc := 39) (v := (-1)) dX3_choose_39 (by decide) ?_
      have hF_40 := hb
      refine ev_icmp_ne (pc := 40) (tgt := 70) dX3_choose_40 (by decide) (fun c_40 => ?_) (fun c_40 => ?_)
      · try simp only [if_neg c_40] at h0
        try simp only [if_neg c_40] at h1
        subst h0
        subst h1
        exact ev_loc hE cw_le0
      · have hb := hF_40 c_40
        try simp only [if_pos c_40] at h0
        try simp only [if_pos c_40] at h1
        refine ev_aload_n (pc := 43) dX3_choose_43 rfl ?_
        refine ev_iload_n (pc := 44) dX3_choose_44 rfl ?_
        refine ev_iload_n (pc := 45) dX3_choose_45 rfl ?_
        refine ev_iload (pc := 46) dX3_choose_46 rfl ?_
        refine ev_Vi (pc := 48) dX3_choose_48 lk_X3_48 cd_X3_gainBy ar_X3_gainBy ⟨by decide, rfl, rfl⟩ (cv_X3_gainBy_46 g n I A4 J t v4_3 v4_2 v31_6 hb.1) (show 46 < 120 by decide) rfl rfl rfl rfl (Nat.le_of_ble_eq_true rfl) ⟨by decide, by decide⟩ ?_
        replace hb := hb.2
        refine ev_iload (pc := 51) dX3_choose_51 rfl ?_
        refine ev_cut (pj := 62) (Lj := [some (.ref (cw_z g + 46)), some (.int x1), some (.int v4_2), some (.int v4_3), some (.int (q23_X3_choose_46 n I A J t x1 A4 v4_2 v4_3)), some (.int v31_5), some (.int v31_6)]) (stj := [(.int (qs0m53_X3_choose_46 n I A J t x1 A4 v4_2 v4_3 v31_5 v31_6))]) (σj := hp g I A4 J t) ?_ (fun hJ_53 => ?_)
        rotate_left
        · refine ev_icmp_ne (pc := 53) (tgt := 61) dX3_choose_53 (by decide) (fun c_53 => ?_) (fun c_53 => ?_)
          · refine ev_iconst (pc := 61) (v := (-1)) dX3_choose_61 (by decide) ?_
            simp only [qs0m53_X3_choose_46, if_neg c_53] at hJ_53
            exact ev_loc hJ_53 cw_le0
          · refine ev_iload (pc := 56) dX3_choose_56 rfl ?_
            refine ev_goto (pc := 58) (tgt := 62) dX3_choose_58 (by decide) ?_
            simp only [qs0m53_X3_choose_46, if_pos c_53] at hJ_53
            exact ev_loc hJ_53 cw_le0
        refine ev_istore_5 (pc := 62) dX3_choose_62 (by decide) rfl ?_
        refine ev_iinc_6 (pc := 64) (v := (q64_X3_choose_46 n I A J t x1 A4 v4_2 v4_3 v31_5 v31_6)) dX3_choose_64 (by decide) rfl rfl ?_
        refine ev_goto (pc := 67) (tgt := 31) dX3_choose_67 (by decide) ?_
        exact ev_loc (ih (qs0m53_X3_choose_46 n I A J t x1 A4 v4_2 v4_3 v31_5 v31_6) (q64_X3_choose_46 n I A J t x1 A4 v4_2 v4_3 v31_5 v31_6) w0 w1 hb h0 h1 hE) cw_le0

set_option maxRecDepth 100000 in
set_option maxHeartbeats 4000000 in
theorem lt_X3_choose_46_4 (g : cw_G) (n : Nat) (I : Nat → Nat → Int32) (A : Nat → Nat → Int32) (J : Nat → Nat → Int64) (t : Bool × Bool) (x1 : Int32) {Q : Option Value → cw_H → Prop} : ∀ (f : Nat) (A4 : Nat → Nat → Int32) (v4_2 : Int32) (v4_3 : Int32) (w0 : Nat → Nat → Int32) (w1 : Int32) (w2 : Int32), lb_X3_choose_46_4 n I A J t x1 f A4 v4_2 v4_3 → (lp_X3_choose_46_4 n I A J t x1 f A4 v4_2 v4_3).1 = w0 → (lp_X3_choose_46_4 n I A J t x1 f A4 v4_2 v4_3).2.1 = w1 → (lp_X3_choose_46_4 n I A J t x1 f A4 v4_2 v4_3).2.2 = w2 → Ev g mX3_choose 0 0 102 [some (.ref (cw_z g + 46)), some (.int x1), some (.int w1), some (.int w2), none, none, none] [] (hp g I w0 J t) Q → Ev g mX3_choose 0 0 4 [some (.ref (cw_z g + 46)), some (.int x1), some (.int v4_2), some (.int v4_3), none, none, none] [] (hp g I A4 J t) Q := by
  intro f
  induction f with
  | zero =>
    intro A4 v4_2 v4_3 w0 w1 w2 hb
    exact hb.elim
  | succ f ih =>
    intro A4 v4_2 v4_3 w0 w1 w2 hb h0 h1 h2 hE
    rw [lb_X3_choose_46_4] at hb
    rw [lp_X3_choose_46_4] at h0 h1 h2
    refine ev_iload_n (pc := 4) dX3_choose_4 rfl ?_
    refine ev_aload_n (pc := 5) dX3_choose_5 rfl ?_
    refine tv_geti (pc := 6) dX3_choose_6 fl_X3_27 (by decide) rfl rfl ?_
    have hF_9 := hb
    refine ev_icmp_ge (pc := 9) (tgt := 102) dX3_choose_9 (by decide) (fun c_9 => ?_) (fun c_9 => ?_)
    · try simp only [if_pos c_9] at h0
      try simp only [if_pos c_9] at h1
      try simp only [if_pos c_9] at h2
      subst h0
      subst h1
      subst h2
      exact ev_loc hE cw_le0
    · have hb := hF_9 c_9
      try simp only [if_neg c_9] at h0
      try simp only [if_neg c_9] at h1
      try simp only [if_neg c_9] at h2
      refine ev_aload_n (pc := 12) dX3_choose_12 rfl ?_
      refine tv_getr (pc := 13) (d := 52) dX3_choose_13 fl_X3_31 (by decide) rfl rfl ?_
      refine ev_iload_n (pc := 16) dX3_choose_16 rfl ?_
      refine ev_bipush (pc := 17) (v := 6) dX3_choose_17 (by decide) ?_
      refine ev_ishl (pc := 19) dX3_choose_19 ?_
      refine ev_iload_n (pc := 20) dX3_choose_20 rfl ?_
      refine ev_iadd (pc := 21) dX3_choose_21 ?_
      refine ev_iald (pc := 22) dX3_choose_22 (by decide) rfl hb.1 ?_
      replace hb := hb.2
      refine ev_is (y := (q23_X3_choose_46 n I A J t x1 A4 v4_2 v4_3)) rfl ?_
      refine ev_istore_4 (pc := 23) dX3_choose_23 (by decide) rfl ?_
      refine ev_iconst (pc := 25) (v := (-1)) dX3_choose_25 (by decide) ?_
      refine ev_istore_5 (pc := 26) dX3_choose_26 (by decide) rfl ?_
      refine ev_iconst (pc := 28) (v := 0) dX3_choose_28 (by decide) ?_
      refine ev_istore_6 (pc := 29) dX3_choose_29 (by decide) rfl ?_
      refine lt_X3_choose_46_31 g n I A J t x1 A4 v4_2 v4_3 n (-1) 0 (q5w31_X3_choose_46 n I A J t x1 A4 v4_2 v4_3) (q6w31_X3_choose_46 n I A J t x1 A4 v4_2 v4_3) hb.1 rfl rfl ?_
      replace hb := hb.2
      refine ev_iload (pc := 70) dX3_choose_70 rfl ?_
      refine ev_iconst (pc := 72) (v := (-1)) dX3_choose_72 (by decide) ?_
      obtain ⟨hF_73, hb⟩ := hb
      refine ev_cut (pj := 96) (Lj := [some (.ref (cw_z g + 46)), some (.int x1), some (.int (ql2m73_X3_choose_46 n I A J t x1 A4 v4_2 v4_3)), some (.int v4_3), some (.int (q23_X3_choose_46 n I A J t x1 A4 v4_2 v4_3)), some (.int (q5w31_X3_choose_46 n I A J t x1 A4 v4_2 v4_3)), some (.int (q6w31_X3_choose_46 n I A J t x1 A4 v4_2 v4_3))]) (stj := []) (σj := hp g I (qAm73_X3_choose_46 n I A J t x1 A4 v4_2 v4_3) J t) ?_ (fun hJ_73 => ?_)
      rotate_left
      · refine ev_icmp_eq (pc := 73) (tgt := 96) dX3_choose_73 (by decide) (fun c_73 => ?_) (fun c_73 => ?_)
        · simp only [qAm73_X3_choose_46, ql2m73_X3_choose_46, if_pos c_73] at hJ_73
          exact ev_loc hJ_73 cw_le0
        · have hb := hF_73 c_73
          refine ev_aload_n (pc := 76) dX3_choose_76 rfl ?_
          refine tv_getr (pc := 77) (d := 50) dX3_choose_77 fl_X3_21 (by decide) rfl rfl ?_
          refine ev_aload_n (pc := 80) dX3_choose_80 rfl ?_
          refine tv_getr (pc := 81) (d := 51) dX3_choose_81 fl_X3_24 (by decide) rfl rfl ?_
          refine ev_iload_n (pc := 84) dX3_choose_84 rfl ?_
          refine ev_iald (pc := 85) dX3_choose_85 (by decide) rfl hb.1 ?_
          replace hb := hb.2
          refine ev_iload (pc := 86) dX3_choose_86 rfl ?_
          refine tw_iast (pc := 88) (A2 := (qA88_X3_choose_46 n I A J t x1 A4 v4_2 v4_3)) dX3_choose_88 (by decide) rfl hb rfl ?_
          refine ev_iload_n (pc := 89) dX3_choose_89 rfl ?_
          refine ev_iconst (pc := 90) (v := 1) dX3_choose_90 (by decide) ?_
          refine ev_iload (pc := 91) dX3_choose_91 rfl ?_
          refine ev_ishl (pc := 93) dX3_choose_93 ?_
          refine ev_ior (pc := 94) dX3_choose_94 ?_
          refine ev_is (y := (q95_X3_choose_46 n I A J t x1 A4 v4_2 v4_3)) rfl ?_
          refine ev_istore_2 (pc := 95) dX3_choose_95 (by decide) rfl ?_
          simp only [qAm73_X3_choose_46, ql2m73_X3_choose_46, if_neg c_73] at hJ_73
          exact ev_loc hJ_73 cw_le0
      refine ev_iinc_3 (pc := 96) (v := (q96_X3_choose_46 n I A J t x1 A4 v4_2 v4_3)) dX3_choose_96 (by decide) rfl rfl ?_
      refine ev_goto (pc := 99) (tgt := 4) dX3_choose_99 (by decide) ?_
      exact ev_loc (ih (qAm73_X3_choose_46 n I A J t x1 A4 v4_2 v4_3) (ql2m73_X3_choose_46 n I A J t x1 A4 v4_2 v4_3) (q96_X3_choose_46 n I A J t x1 A4 v4_2 v4_3) w0 w1 w2 hb h0 h1 h2 hE) (cw_leS (cw_leS (cw_leS (cw_leS (cw_leN (cw_leN (cw_leN cw_le0)))))))

set_option maxRecDepth 100000 in
set_option maxHeartbeats 4000000 in
theorem cv_X3_choose_46 (g : cw_G) (n : Nat) (I : Nat → Nat → Int32) (A : Nat → Nat → Int32) (J : Nat → Nat → Int64) (t : Bool × Bool) (x1 : Int32) (hb : pb_X3_choose_46 n I A J t x1) : Cd g mX3_choose [(.ref (cw_z g + 46)), (.int x1)] (hp g I A J t) none (hp g I (pA_X3_choose_46 n I A J t x1) J t) := by
  unfold pb_X3_choose_46 at hb
  unfold pA_X3_choose_46
  refine Cd.of rfl (Nat.le_of_ble_eq_true rfl) (ev_gen (fun Q hQ => ?_))
  refine ev_iconst (pc := 0) (v := 0) dX3_choose_0 (by decide) ?_
  refine ev_istore_2 (pc := 1) dX3_choose_1 (by decide) rfl ?_
  refine ev_iconst (pc := 2) (v := 0) dX3_choose_2 (by decide) ?_
  refine ev_istore_3 (pc := 3) dX3_choose_3 (by decide) rfl ?_
  refine lt_X3_choose_46_4 g n I A J t x1 n A 0 0 (qAw4_X3_choose_46 n I A J t x1) (q2w4_X3_choose_46 n I A J t x1) (q3w4_X3_choose_46 n I A J t x1) hb rfl rfl rfl ?_
  exact ev_vret (pc := 102) dX3_choose_102 rfl (by decide) (by decide) (hQ _ _ ⟨rfl, rfl⟩)

def q3_X3_solve_46 (n : Nat) (I : Nat → Nat → Int32) (A : Nat → Nat → Int32) (J : Nat → Nat → Int64) (t : Bool × Bool) (x1 : Int32) : Int32 := ((1 : Int32) <<< (x1 &&& 31))
def qA25_X3_solve_46 (n : Nat) (I : Nat → Nat → Int32) (A : Nat → Nat → Int32) (J : Nat → Nat → Int64) (t : Bool × Bool) (x1 : Int32) (A6 : Nat → Nat → Int32) (v6_3 : Int32) : Nat → Nat → Int32 := cw_u A6 52 ((((I 46 5) <<< (6 &&& 31)) + v6_3)).toNatClampNeg 0
def q26_X3_solve_46 (n : Nat) (I : Nat → Nat → Int32) (A : Nat → Nat → Int32) (J : Nat → Nat → Int64) (t : Bool × Bool) (x1 : Int32) (A6 : Nat → Nat → Int32) (v6_3 : Int32) : Int32 := v6_3 + 1
def lp_X3_solve_46_6 (n : Nat) (I : Nat → Nat → Int32) (A : Nat → Nat → Int32) (J : Nat → Nat → Int64) (t : Bool × Bool) (x1 : Int32) : Nat → (Nat → Nat → Int32) → (Int32) → (Nat → Nat → Int32) × Int32
  | 0, A6, v6_3 => (A6, v6_3)
  | f + 1, A6, v6_3 => if (q3_X3_solve_46 n I A J t x1) ≤ v6_3 then (A6, v6_3) else lp_X3_solve_46_6 n I A J t x1 f (qA25_X3_solve_46 n I A J t x1 A6 v6_3) (q26_X3_solve_46 n I A J t x1 A6 v6_3)
def lb_X3_solve_46_6 (n : Nat) (I : Nat → Nat → Int32) (A : Nat → Nat → Int32) (J : Nat → Nat → Int64) (t : Bool × Bool) (x1 : Int32) : Nat → (Nat → Nat → Int32) → (Int32) → Prop
  | 0, _, _ => False
  | f + 1, A6, v6_3 => (¬ (q3_X3_solve_46 n I A J t x1) ≤ v6_3 → vp_in (((I 46 5) <<< (6 &&& 31)) + v6_3) 704 ∧ lb_X3_solve_46_6 n I A J t x1 f (qA25_X3_solve_46 n I A J t x1 A6 v6_3) (q26_X3_solve_46 n I A J t x1 A6 v6_3))
def qAw6_X3_solve_46 (n : Nat) (I : Nat → Nat → Int32) (A : Nat → Nat → Int32) (J : Nat → Nat → Int64) (t : Bool × Bool) (x1 : Int32) : Nat → Nat → Int32 := (lp_X3_solve_46_6 n I A J t x1 n A 0).1
def q3w6_X3_solve_46 (n : Nat) (I : Nat → Nat → Int32) (A : Nat → Nat → Int32) (J : Nat → Nat → Int64) (t : Bool × Bool) (x1 : Int32) : Int32 := (lp_X3_solve_46_6 n I A J t x1 n A 0).2
def q38_X3_solve_46 (n : Nat) (I : Nat → Nat → Int32) (A : Nat → Nat → Int32) (J : Nat → Nat → Int64) (t : Bool × Bool) (x1 : Int32) : Int32 := ((I 46 5) - 1)
def qA71_X3_solve_46 (n : Nat) (I : Nat → Nat → Int32) (A : Nat → Nat → Int32) (J : Nat → Nat → Int64) (t : Bool × Bool) (x1 : Int32) (A39 : Nat → Nat → Int32) (v39_3 : Int32) (A46 : Nat → Nat → Int32) (v46_4 : Int32) : Nat → Nat → Int32 := cw_u A46 52 (((v39_3 <<< (6 &&& 31)) + v46_4)).toNatClampNeg (px_X3_bestFrom_46 n I A46 J t v39_3 v46_4 x1)
def q72_X3_solve_46 (n : Nat) (I : Nat → Nat → Int32) (A : Nat → Nat → Int32) (J : Nat → Nat → Int64) (t : Bool × Bool) (x1 : Int32) (A39 : Nat → Nat → Int32) (v39_3 : Int32) (A46 : Nat → Nat → Int32) (v46_4 : Int32) : Int32 := v46_4 + 1
def lp_X3_solve_46_46 (n : Nat) (I : Nat → Nat → Int32) (A : Nat → Nat → Int32) (J : Nat → Nat → Int64) (t : Bool × Bool) (x1 : Int32) (A39 : Nat → Nat → Int32) (v39_3 : Int32) : Nat → (Nat → Nat → Int32) → (Int32) → (Nat → Nat → Int32) × Int32
  | 0, A46, v46_4 => (A46, v46_4)
  | f + 1, A46, v46_4 => if (q3_X3_solve_46 n I A J t x1) ≤ v46_4 then (A46, v46_4) else lp_X3_solve_46_46 n I A J t x1 A39 v39_3 f (qA71_X3_solve_46 n I A J t x1 A39 v39_3 A46 v46_4) (q72_X3_solve_46 n I A J t x1 A39 v39_3 A46 v46_4)
def lb_X3_solve_46_46 (n : Nat) (I : Nat → Nat → Int32) (A : Nat → Nat → Int32) (J : Nat → Nat → Int64) (t : Bool × Bool) (x1 : Int32) (A39 : Nat → Nat → Int32) (v39_3 : Int32) : Nat → (Nat → Nat → Int32) → (Int32) → Prop
  | 0, _, _ => False
  | f + 1, A46, v46_4 => (¬ (q3_X3_solve_46 n I A J t x1) ≤ v46_4 → pb_X3_bestFrom_46 n I A46 J t v39_3 v46_4 x1 ∧ vp_in ((v39_3 <<< (6 &&& 31)) + v46_4) 704 ∧ lb_X3_solve_46_46 n I A J t x1 A39 v39_3 f (qA71_X3_solve_46 n I A J t x1 A39 v39_3 A46 v46_4) (q72_X3_solve_46 n I A J t x1 A39 v39_3 A46 v46_4))
def qAw46_X3_solve_46 (n : Nat) (I : Nat → Nat → Int32) (A : Nat → Nat → Int32) (J : Nat → Nat → Int64) (t : Bool × Bool) (x1 : Int32) (A39 : Nat → Nat → Int32) (v39_3 : Int32) : Nat → Nat → Int32 := (lp_X3_solve_46_46 n I A J t x1 A39 v39_3 n A39 0).1
def q4w46_X3_solve_46 (n : Nat) (I : Nat → Nat → Int32) (A : Nat → Nat → Int32) (J : Nat → Nat → Int64) (t : Bool × Bool) (x1 : Int32) (A39 : Nat → Nat → Int32) (v39_3 : Int32) : Int32 := (lp_X3_solve_46_46 n I A J t x1 A39 v39_3 n A39 0).2
def q78_X3_solve_46 (n : Nat) (I : Nat → Nat → Int32) (A : Nat → Nat → Int32) (J : Nat → Nat → Int64) (t : Bool × Bool) (x1 : Int32) (A39 : Nat → Nat → Int32) (v39_3 : Int32) : Int32 := v39_3 + (-1)
def lp_X3_solve_46_39 (n : Nat) (I : Nat → Nat → Int32) (A : Nat → Nat → Int32) (J : Nat → Nat → Int64) (t : Bool × Bool) (x1 : Int32) : Nat → (Nat → Nat → Int32) → (Int32) → (Nat → Nat → Int32) × Int32
  | 0, A39, v39_3 => (A39, v39_3)
  | f + 1, A39, v39_3 => if v39_3 < 0 then (A39, v39_3) else lp_X3_solve_46_39 n I A J t x1 f (qAw46_X3_solve_46 n I A J t x1 A39 v39_3) (q78_X3_solve_46 n I A J t x1 A39 v39_3)
def lb_X3_solve_46_39 (n : Nat) (I : Nat → Nat → Int32) (A : Nat → Nat → Int32) (J : Nat → Nat → Int64) (t : Bool × Bool) (x1 : Int32) : Nat → (Nat → Nat → Int32) → (Int32) → Prop
  | 0, _, _ => False
  | f + 1, A39, v39_3 => (¬ v39_3 < 0 → lb_X3_solve_46_46 n I A J t x1 A39 v39_3 n A39 0 ∧ lb_X3_solve_46_39 n I A J t x1 f (qAw46_X3_solve_46 n I A J t x1 A39 v39_3) (q78_X3_solve_46 n I A J t x1 A39 v39_3))
def qAw39_X3_solve_46 (n : Nat) (I : Nat → Nat → Int32) (A : Nat → Nat → Int32) (J : Nat → Nat → Int64) (t : Bool × Bool) (x1 : Int32) : Nat → Nat → Int32 := (lp_X3_solve_46_39 n I A J t x1 n (qAw6_X3_solve_46 n I A J t x1) (q38_X3_solve_46 n I A J t x1)).1
def q3w39_X3_solve_46 (n : Nat) (I : Nat → Nat → Int32) (A : Nat → Nat → Int32) (J : Nat → Nat → Int64) (t : Bool × Bool) (x1 : Int32) : Int32 := (lp_X3_solve_46_39 n I A J t x1 n (qAw6_X3_solve_46 n I A J t x1) (q38_X3_solve_46 n I A J t x1)).2
def pb_X3_solve_46 (n : Nat) (I : Nat → Nat → Int32) (A : Nat → Nat → Int32) (J : Nat → Nat → Int64) (t : Bool × Bool) (x1 : Int32) : Prop := lb_X3_solve_46_6 n I A J t x1 n A 0 ∧ lb_X3_solve_46_39 n I A J t x1 n (qAw6_X3_solve_46 n I A J t x1) (q38_X3_solve_46 n I A J t x1) ∧ pb_X3_choose_46 n I (qAw39_X3_solve_46 n I A J t x1) J t x1
def pA_X3_solve_46 (n : Nat) (I : Nat → Nat → Int32) (A : Nat → Nat → Int32) (J : Nat → Nat → Int64) (t : Bool × Bool) (x1 : Int32) : Nat → Nat → Int32 := (pA_X3_choose_46 n I (qAw39_X3_solve_46 n I A J t x1) J t x1)
set_option maxRecDepth 100000 in
set_option maxHeartbeats 4000000 in
theorem lt_X3_solve_46_6 (g : cw_G) (n : Nat) (I : Nat → Nat → Int32) (A : Nat → Nat → Int32) (J : Nat → Nat → Int64) (t : Bool × Bool) (x1 : Int32) {Q : Option Value → cw_H → Prop} : ∀ (f : Nat) (A6 : Nat → Nat → Int32) (v6_3 : Int32) (w0 : Nat → Nat → Int32) (w1 : Int32), lb_X3_solve_46_6 n I A J t x1 f A6 v6_3 → (lp_X3_solve_46_6 n I A J t x1 f A6 v6_3).1 = w0 → (lp_X3_solve_46_6 n I A J t x1 f A6 v6_3).2 = w1 → Ev g mX3_solve 0 0 32 [some (.ref (cw_z g + 46)), some (.int x1), some (.int (q3_X3_solve_46 n I A J t x1)), some (.int w1), none] [] (hp g I w0 J t) Q → Ev g mX3_solve 0 0 6 [some (.ref (cw_z g + 46)), some (.int x1), some (.int (q3_X3_solve_46 n I A J t x1)), some (.int v6_3), none] [] (hp g I A6 J t) Q := by
  intro f
  induction f with
  | zero =>
    intro A6 v6_3 w0 w1 hb
    exact hb.elim
  | succ f ih =>
    intro A6 v6_3 w0 w1 hb h0 h1 hE
    rw [lb_X3_solve_46_6] at hb
    rw [lp_X3_solve_46_6] at h0 h1
    refine ev_iload_n (pc := 6) dX3_solve_6 rfl ?_
    refine ev_iload_n (pc := 7) dX3_solve_7 rfl ?_
    have hF_8 := hb
    refine ev_icmp_ge (pc := 8) (tgt := 32) dX3_solve_8 (by decide) (fun c_8 => ?_) (fun c_8 => ?_)
    · try simp only [if_pos c_8] at h0
      try simp only [if_pos c_8] at h1
      subst h0
      subst h1
      exact ev_loc hE cw_le0
    · have hb := hF_8 c_8
      try simp only [if_neg c_8] at h0
      try simp only [if_neg c_8] at h1
      refine ev_aload_n (pc := 11) dX3_solve_11 rfl ?_
      refine tv_getr (pc := 12) (d := 52) dX3_solve_12 fl_X3_31 (by decide) rfl rfl ?_
      refine ev_aload_n (pc := 15) dX3_solve_15 rfl ?_
      refine tv_geti (pc := 16) dX3_solve_16 fl_X3_27 (by decide) rfl rfl ?_
      refine ev_bipush (pc := 19) (v := 6) dX3_solve_19 (by decide) ?_
      refine ev_ishl (pc := 21) dX3_solve_21 ?_
      refine ev_iload_n (pc := 22) dX3_solve_22 rfl ?_
      refine ev_iadd (pc := 23) dX3_solve_23 ?_
      refine ev_iconst (pc := 24) (v := 0) dX3_solve_24 (by decide) ?_
      refine tw_iast (pc := 25) (A2 := (qA25_X3_solve_46 n I A J t x1 A6 v6_3)) dX3_solve_25 (by decide) rfl hb.1 rfl ?_
      replace hb := hb.2
      refine ev_iinc_3 (pc := 26) (v := (q26_X3_solve_46 n I A J t x1 A6 v6_3)) dX3_solve_26 (by decide) rfl rfl ?_
      refine ev_goto (pc := 29) (tgt := 6) dX3_solve_29 (by decide) ?_
      exact ev_loc (ih (qA25_X3_solve_46 n I A J t x1 A6 v6_3) (q26_X3_solve_46 n I A J t x1 A6 v6_3) w0 w1 hb h0 h1 hE) cw_le0

set_option maxRecDepth 100000 in
set_option maxHeartbeats 4000000 in
theorem lt_X3_solve_46_46 (g : cw_G) (n : Nat) (I : Nat → Nat → Int32) (A : Nat → Nat → Int32) (J : Nat → Nat → Int64) (t : Bool × Bool) (x1 : Int32) (A39 : Nat → Nat → Int32) (v39_3 : Int32) {Q : Option Value → cw_H → Prop} : ∀ (f : Nat) (A46 : Nat → Nat → Int32) (v46_4 : Int32) (w0 : Nat → Nat → Int32) (w1 : Int32), lb_X3_solve_46_46 n I A J t x1 A39 v39_3 f A46 v46_4 → (lp_X3_solve_46_46 n I A J t x1 A39 v39_3 f A46 v46_4).1 = w0 → (lp_X3_solve_46_46 n I A J t x1 A39 v39_3 f A46 v46_4).2 = w1 → Ev g mX3_solve 0 0 78 [some (.ref (cw_z g + 46)), some (.int x1), some (.int (q3_X3_solve_46 n I A J t x1)), some (.int v39_3), some (.int w1)] [] (hp g I w0 J t) Q → Ev g mX3_solve 0 0 46 [some (.ref (cw_z g + 46)), some (.int x1), some (.int (q3_X3_solve_46 n I A J t x1)), some (.int v39_3), some (.int v46_4)] [] (hp g I A46 J t) Q := by
  intro f
  induction f with
  | zero =>
    intro A46 v46_4 w0 w1 hb
    exact hb.elim
  | succ f ih =>
    intro A46 v46_4 w0 w1 hb h0 h1 hE
    rw [lb_X3_solve_46_46] at hb
    rw [lp_X3_solve_46_46] at h0 h1
    refine ev_iload (pc := 46) dX3_solve_46 rfl ?_
    refine ev_iload_n (pc := 48) dX3_solve_48 rfl ?_
    have hF_49 := hb
    refine ev_icmp_ge (pc := 49) (tgt := 78) dX3_solve_49 (by decide) (fun c_49 => ?_) (fun c_49 => ?_)
    · try simp only [if_pos c_49] at h0
      try simp only [if_pos c_49] at h1
      subst h0
      subst h1
      exact ev_loc hE cw_le0
    · have hb := hF_49 c_49
      try simp only [if_neg c_49] at h0
      try simp only [if_neg c_49] at h1
      refine ev_aload_n (pc := 52) dX3_solve_52 rfl ?_
      refine tv_getr (pc := 53) (d := 52) dX3_solve_53 fl_X3_31 (by decide) rfl rfl ?_
      refine ev_iload_n (pc := 56) dX3_solve_56 rfl ?_
      refine ev_bipush (pc := 57) (v := 6) dX3_solve_57 (by decide) ?_
      refine ev_ishl (pc := 59) dX3_solve_59 ?_
      refine ev_iload (pc := 60) dX3_solve_60 rfl ?_
      refine ev_iadd (pc := 62) dX3_solve_62 ?_
      refine ev_aload_n (pc := 63) dX3_solve_63 rfl ?_
      refine ev_iload_n (pc := 64) dX3_solve_64 rfl ?_
      refine ev_iload (pc := 65) dX3_solve_65 rfl ?_
      refine ev_iload_n (pc := 67) dX3_solve_67 rfl ?_
      refine ev_Vi (pc := 68) dX3_solve_68 lk_X3_40 cd_X3_bestFrom ar_X3_bestFrom ⟨by decide, rfl, rfl⟩ (cv_X3_bestFrom_46 g n I A46 J t v39_3 v46_4 x1 hb.1) (show 46 < 120 by decide) rfl rfl rfl rfl (Nat.le_of_ble_eq_true rfl) ⟨by decide, by decide⟩ ?_
      replace hb := hb.2
      refine tw_iast (pc := 71) (A2 := (qA71_X3_solve_46 n I A J t x1 A39 v39_3 A46 v46_4)) dX3_solve_71 (by decide) rfl hb.1 rfl ?_
      replace hb := hb.2
      refine ev_iinc_4 (pc := 72) (v := (q72_X3_solve_46 n I A J t x1 A39 v39_3 A46 v46_4)) dX3_solve_72 (by decide) rfl rfl ?_
      refine ev_goto (pc := 75) (tgt := 46) dX3_solve_75 (by decide) ?_
      exact ev_loc (ih (qA71_X3_solve_46 n I A J t x1 A39 v39_3 A46 v46_4) (q72_X3_solve_46 n I A J t x1 A39 v39_3 A46 v46_4) w0 w1 hb h0 h1 hE) cw_le0

set_option maxRecDepth 100000 in
set_option maxHeartbeats 4000000 in
theorem lt_X3_solve_46_39 (g : cw_G) (n : Nat) (I : Nat → Nat → Int32) (A : Nat → Nat → Int32) (J : Nat → Nat → Int64) (t : Bool × Bool) (x1 : Int32) {Q : Option Value → cw_H → Prop} : ∀ (f : Nat) (A39 : Nat → Nat → Int32) (v39_3 : Int32) (w0 : Nat → Nat → Int32) (w1 : Int32), lb_X3_solve_46_39 n I A J t x1 f A39 v39_3 → (lp_X3_solve_46_39 n I A J t x1 f A39 v39_3).1 = w0 → (lp_X3_solve_46_39 n I A J t x1 f A39 v39_3).2 = w1 → Ev g mX3_solve 0 0 84 [some (.ref (cw_z g + 46)), some (.int x1), some (.int (q3_X3_solve_46 n I A J t x1)), some (.int w1), none] [] (hp g I w0 J t) Q → Ev g mX3_solve 0 0 39 [some (.ref (cw_z g + 46)), some (.int x1), some (.int (q3_X3_solve_46 n I A J t x1)), some (.int v39_3), none] [] (hp g I A39 J t) Q := by
  intro f
  induction f with
  | zero =>
    intro A39 v39_3 w0 w1 hb
    exact hb.elim
  | succ f ih =>
    intro A39 v39_3 w0 w1 hb h0 h1 hE
    rw [lb_X3_solve_46_39] at hb
    rw [lp_X3_solve_46_39] at h0 h1
    refine ev_iload_n (pc := 39) dX3_solve_39 rfl ?_
    have hF_40 := hb
    refine ev_if_lt (pc := 40) (tgt := 84) dX3_solve_40 (by decide) (fun c_40 => ?_) (fun c_40 => ?_)
    · try simp only [if_pos c_40] at h0
      try simp only [if_pos c_40] at h1
      subst h0
      subst h1
      exact ev_loc hE cw_le0
    · have hb := hF_40 c_40
      try simp only [if_neg c_40] at h0
      try simp only [if_neg c_40] at h1
      refine ev_iconst (pc := 43) (v := 0) dX3_solve_43 (by decide) ?_
      refine ev_istore_4 (pc := 44) dX3_solve_44 (by decide) rfl ?_
      refine lt_X3_solve_46_46 g n I A J t x1 A39 v39_3 n A39 0 (qAw46_X3_solve_46 n I A J t x1 A39 v39_3) (q4w46_X3_solve_46 n I A J t x1 A39 v39_3) hb.1 rfl rfl ?_
      replace hb := hb.2
      refine ev_iinc_3 (pc := 78) (v := (q78_X3_solve_46 n I A J t x1 A39 v39_3)) dX3_solve_78 (by decide) rfl rfl ?_
      refine ev_goto (pc := 81) (tgt := 39) dX3_solve_81 (by decide) ?_
      exact ev_loc (ih (qAw46_X3_solve_46 n I A J t x1 A39 v39_3) (q78_X3_solve_46 n I A J t x1 A39 v39_3) w0 w1 hb h0 h1 hE) (cw_leS (cw_leS (cw_leS (cw_leS (cw_leN cw_le0)))))

set_option maxRecDepth 100000 in
set_option maxHeartbeats 4000000 in
theorem cv_X3_solve_46 (g : cw_G) (n : Nat) (I : Nat → Nat → Int32) (A : Nat → Nat → Int32) (J : Nat → Nat → Int64) (t : Bool × Bool) (x1 : Int32) (hb : pb_X3_solve_46 n I A J t x1) : Cd g mX3_solve [(.ref (cw_z g + 46)), (.int x1)] (hp g I A J t) none (hp g I (pA_X3_solve_46 n I A J t x1) J t) := by
  unfold pb_X3_solve_46 at hb
  unfold pA_X3_solve_46
  refine Cd.of rfl (Nat.le_of_ble_eq_true rfl) (ev_gen (fun Q hQ => ?_))
  refine ev_iconst (pc := 0) (v := 1) dX3_solve_0 (by decide) ?_
  refine ev_iload_n (pc := 1) dX3_solve_1 rfl ?_
  refine ev_ishl (pc := 2) dX3_solve_2 ?_
  refine ev_is (y := (q3_X3_solve_46 n I A J t x1)) rfl ?_
  refine ev_istore_2 (pc := 3) dX3_solve_3 (by decide) rfl ?_
  refine ev_iconst (pc := 4) (v := 0) dX3_solve_4 (by decide) ?_
  refine ev_istore_3 (pc := 5) dX3_solve_5 (by decide) rfl ?_
  refine lt_X3_solve_46_6 g n I A J t x1 n A 0 (qAw6_X3_solve_46 n I A J t x1) (q3w6_X3_solve_46 n I A J t x1) hb.1 rfl rfl ?_
  replace hb := hb.2
  refine ev_aload_n (pc := 32) dX3_solve_32 rfl ?_
  refine tv_geti (pc := 33) dX3_solve_33 fl_X3_27 (by decide) rfl rfl ?_
  refine ev_iconst (pc := 36) (v := 1) dX3_solve_36 (by decide) ?_
  refine ev_isub (pc := 37) dX3_solve_37 ?_
  refine ev_is (y := (q38_X3_solve_46 n I A J t x1)) rfl ?_
  refine ev_istore_3 (pc := 38) dX3_solve_38 (by decide) rfl ?_
  refine lt_X3_solve_46_39 g n I A J t x1 n (qAw6_X3_solve_46 n I A J t x1) (q38_X3_solve_46 n I A J t x1) (qAw39_X3_solve_46 n I A J t x1) (q3w39_X3_solve_46 n I A J t x1) hb.1 rfl rfl ?_
  replace hb := hb.2
  refine ev_aload_n (pc := 84) dX3_solve_84 rfl ?_
  refine ev_iload_n (pc := 85) dX3_solve_85 rfl ?_
  refine ev_Vv (pc := 86) dX3_solve_86 lk_X3_44 cd_X3_choose ar_X3_choose ⟨by decide, rfl, rfl⟩ (cv_X3_choose_46 g n I (qAw39_X3_solve_46 n I A J t x1) J t x1 hb) (show 46 < 120 by decide) rfl rfl rfl rfl (Nat.le_of_ble_eq_true rfl) ⟨by decide, by decide⟩ ?_
  exact ev_vret (pc := 89) dX3_solve_89 rfl (by decide) (by decide) (hQ _ _ ⟨rfl, rfl⟩)

def pb_X3_mastFor_46 (n : Nat) (I : Nat → Nat → Int32) (A : Nat → Nat → Int32) (J : Nat → Nat → Int64) (t : Bool × Bool) (x1 : Int32) : Prop := vp_in x1 10
def px_X3_mastFor_46 (n : Nat) (I : Nat → Nat → Int32) (A : Nat → Nat → Int32) (J : Nat → Nat → Int64) (t : Bool × Bool) (x1 : Int32) : Int32 := (A 50 (x1).toNatClampNeg)
set_option maxRecDepth 100000 in
set_option maxHeartbeats 4000000 in
theorem cv_X3_mastFor_46 (g : cw_G) (n : Nat) (I : Nat → Nat → Int32) (A : Nat → Nat → Int32) (J : Nat → Nat → Int64) (t : Bool × Bool) (x1 : Int32) (hb : pb_X3_mastFor_46 n I A J t x1) : Cd g mX3_mastFor [(.ref (cw_z g + 46)), (.int x1)] (hp g I A J t) (some (.int (px_X3_mastFor_46 n I A J t x1))) (hp g I A J t) := by
  unfold pb_X3_mastFor_46 at hb
  unfold px_X3_mastFor_46
  refine Cd.of rfl (Nat.le_of_ble_eq_true rfl) (ev_gen (fun Q hQ => ?_))
  refine ev_aload_n (pc := 0) dX3_mastFor_0 rfl ?_
  refine tv_getr (pc := 1) (d := 50) dX3_mastFor_1 fl_X3_21 (by decide) rfl rfl ?_
  refine ev_iload_n (pc := 4) dX3_mastFor_4 rfl ?_
  refine ev_iald (pc := 5) dX3_mastFor_5 (by decide) rfl hb ?_
  exact ev_iret (pc := 6) dX3_mastFor_6 rfl (by decide) (by decide) (hQ _ _ ⟨rfl, rfl⟩)

def pb_X3_bandOf_46 (n : Nat) (I : Nat → Nat → Int32) (A : Nat → Nat → Int32) (J : Nat → Nat → Int64) (t : Bool × Bool) (x1 : Int32) (x2 : Int32) : Prop := vp_in ((x1 * 6) + x2) 60
def px_X3_bandOf_46 (n : Nat) (I : Nat → Nat → Int32) (A : Nat → Nat → Int32) (J : Nat → Nat → Int64) (t : Bool × Bool) (x1 : Int32) (x2 : Int32) : Int32 := (A 48 (((x1 * 6) + x2)).toNatClampNeg)
set_option maxRecDepth 100000 in
set_option maxHeartbeats 4000000 in
theorem cv_X3_bandOf_46 (g : cw_G) (n : Nat) (I : Nat → Nat → Int32) (A : Nat → Nat → Int32) (J : Nat → Nat → Int64) (t : Bool × Bool) (x1 : Int32) (x2 : Int32) (hb : pb_X3_bandOf_46 n I A J t x1 x2) : Cd g mX3_bandOf [(.ref (cw_z g + 46)), (.int x1), (.int x2)] (hp g I A J t) (some (.int (px_X3_bandOf_46 n I A J t x1 x2))) (hp g I A J t) := by
  unfold pb_X3_bandOf_46 at hb
  unfold px_X3_bandOf_46
  refine Cd.of rfl (Nat.le_of_ble_eq_true rfl) (ev_gen (fun Q hQ => ?_))
  refine ev_aload_n (pc := 0) dX3_bandOf_0 rfl ?_
  refine tv_getr (pc := 1) (d := 48) dX3_bandOf_1 fl_X3_15 (by decide) rfl rfl ?_
  refine ev_iload_n (pc := 4) dX3_bandOf_4 rfl ?_
  refine ev_bipush (pc := 5) (v := 6) dX3_bandOf_5 (by decide) ?_
  refine ev_imul (pc := 7) dX3_bandOf_7 ?_
  refine ev_iload_n (pc := 8) dX3_bandOf_8 rfl ?_
  refine ev_iadd (pc := 9) dX3_bandOf_9 ?_
  refine ev_iald (pc := 10) dX3_bandOf_10 (by decide) rfl hb ?_
  exact ev_iret (pc := 11) dX3_bandOf_11 rfl (by decide) (by decide) (hQ _ _ ⟨rfl, rfl⟩)

def pb_X3_strengthOf_46 (n : Nat) (I : Nat → Nat → Int32) (A : Nat → Nat → Int32) (J : Nat → Nat → Int64) (t : Bool × Bool) (x1 : Int32) (x2 : Int32) : Prop := vp_in ((x1 * 6) + x2) 60
def px_X3_strengthOf_46 (n : Nat) (I : Nat → Nat → Int32) (A : Nat → Nat → Int32) (J : Nat → Nat → Int64) (t : Bool × Bool) (x1 : Int32) (x2 : Int32) : Int32 := (A 49 (((x1 * 6) + x2)).toNatClampNeg)
set_option maxRecDepth 100000 in
set_option maxHeartbeats 4000000 in
theorem cv_X3_strengthOf_46 (g : cw_G) (n : Nat) (I : Nat → Nat → Int32) (A : Nat → Nat → Int32) (J : Nat → Nat → Int64) (t : Bool × Bool) (x1 : Int32) (x2 : Int32) (hb : pb_X3_strengthOf_46 n I A J t x1 x2) : Cd g mX3_strengthOf [(.ref (cw_z g + 46)), (.int x1), (.int x2)] (hp g I A J t) (some (.int (px_X3_strengthOf_46 n I A J t x1 x2))) (hp g I A J t) := by
  unfold pb_X3_strengthOf_46 at hb
  unfold px_X3_strengthOf_46
  refine Cd.of rfl (Nat.le_of_ble_eq_true rfl) (ev_gen (fun Q hQ => ?_))
  refine ev_aload_n (pc := 0) dX3_strengthOf_0 rfl ?_
  refine tv_getr (pc := 1) (d := 49) dX3_strengthOf_1 fl_X3_18 (by decide) rfl rfl ?_
  refine ev_iload_n (pc := 4) dX3_strengthOf_4 rfl ?_
  refine ev_bipush (pc := 5) (v := 6) dX3_strengthOf_5 (by decide) ?_
  refine ev_imul (pc := 7) dX3_strengthOf_7 ?_
  refine ev_iload_n (pc := 8) dX3_strengthOf_8 rfl ?_
  refine ev_iadd (pc := 9) dX3_strengthOf_9 ?_
  refine ev_iald (pc := 10) dX3_strengthOf_10 (by decide) rfl hb ?_
  exact ev_iret (pc := 11) dX3_strengthOf_11 rfl (by decide) (by decide) (hQ _ _ ⟨rfl, rfl⟩)
