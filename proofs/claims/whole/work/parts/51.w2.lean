def q15_X11_read_0_tFx (n : Nat) (I : Nat → Nat → Int32) (A : Nat → Nat → Int32) (J : Nat → Nat → Int64) (t : Bool × Bool) : Int32 := (px_X4_parse_33_32_tFx n I A J (false, t.2) (I 0 13))
def qI18_X11_read_0_tFx (n : Nat) (I : Nat → Nat → Int32) (A : Nat → Nat → Int32) (J : Nat → Nat → Int64) (t : Bool × Bool) : Nat → Nat → Int32 := cw_u (pI_X4_parse_33_32_tFx n I A J (false, t.2) (I 0 13)) 0 13 0
def pb_X11_read_0_tFx (n : Nat) (I : Nat → Nat → Int32) (A : Nat → Nat → Int32) (J : Nat → Nat → Int64) (t : Bool × Bool) : Prop := pb_X4_parse_33_32_tFx n I A J (false, t.2) (I 0 13)
def px_X11_read_0_tFx (n : Nat) (I : Nat → Nat → Int32) (A : Nat → Nat → Int32) (J : Nat → Nat → Int64) (t : Bool × Bool) : Int32 := (q15_X11_read_0_tFx n I A J t)
def pI_X11_read_0_tFx (n : Nat) (I : Nat → Nat → Int32) (A : Nat → Nat → Int32) (J : Nat → Nat → Int64) (t : Bool × Bool) : Nat → Nat → Int32 := (qI18_X11_read_0_tFx n I A J t)
def pA_X11_read_0_tFx (n : Nat) (I : Nat → Nat → Int32) (A : Nat → Nat → Int32) (J : Nat → Nat → Int64) (t : Bool × Bool) : Nat → Nat → Int32 := (pA_X4_parse_33_32_tFx n I A J (false, t.2) (I 0 13))
def pt_X11_read_0_tFx (n : Nat) (I : Nat → Nat → Int32) (A : Nat → Nat → Int32) (J : Nat → Nat → Int64) (t : Bool × Bool) : Bool × Bool := (if (q15_X11_read_0_tFx n I A J t) = 0 then (true, true) else (false, true))
set_option maxRecDepth 100000 in
set_option maxHeartbeats 4000000 in
theorem cv_X11_read_0_tFx (g : cw_G) (n : Nat) (I : Nat → Nat → Int32) (A : Nat → Nat → Int32) (J : Nat → Nat → Int64) (t : Bool × Bool) (hb : pb_X11_read_0_tFx n I A J t) : Cd g mX11_read [(.ref (cw_z g + 0))] (hp g I A J (false, t.2)) (some (.int (px_X11_read_0_tFx n I A J t))) (hp g (pI_X11_read_0_tFx n I A J t) (pA_X11_read_0_tFx n I A J t) J (pt_X11_read_0_tFx n I A J t)) := by
  unfold pb_X11_read_0_tFx at hb
  unfold px_X11_read_0_tFx pI_X11_read_0_tFx pA_X11_read_0_tFx pt_X11_read_0_tFx
  refine Cd.of rfl (Nat.le_of_ble_eq_true rfl) (ev_gen (fun Q hQ => ?_))
  refine ev_aload_n (pc := 0) dX11_read_0 rfl ?_
  refine tv_getr (pc := 1) (d := 33) dX11_read_1 fl_X11_63 (by decide) rfl rfl ?_
  refine ev_aload_n (pc := 4) dX11_read_4 rfl ?_
  refine tv_getr (pc := 5) (d := 32) dX11_read_5 fl_X11_56 (by decide) rfl rfl ?_
  refine ev_aload_n (pc := 8) dX11_read_8 rfl ?_
  refine tv_geti (pc := 9) dX11_read_9 fl_X11_92 (by decide) rfl rfl ?_
  refine ev_Vi (pc := 12) dX11_read_12 lk_X11_102 cd_X4_parse ar_X4_parse ⟨by decide, rfl, rfl⟩ (cv_X4_parse_33_32_tFx g n I A J (false, t.2) (I 0 13) hb) (show 33 < 120 by decide) rfl rfl rfl rfl (Nat.le_of_ble_eq_true rfl) ⟨by decide, by decide⟩ ?_
  refine ev_is (y := (q15_X11_read_0_tFx n I A J t)) rfl ?_
  refine ev_istore_1 (pc := 15) dX11_read_15 (by decide) rfl ?_
  refine ev_aload_n (pc := 16) dX11_read_16 rfl ?_
  refine ev_iconst (pc := 17) (v := 0) dX11_read_17 (by decide) ?_
  refine tw_puti (pc := 18) (I2 := (qI18_X11_read_0_tFx n I A J t)) dX11_read_18 fp_X11_92 (by decide) rfl rfl rfl ?_
  refine ev_iload_n (pc := 21) dX11_read_21 rfl ?_
  refine ev_if_ne (pc := 22) (tgt := 40) dX11_read_22 (by decide) (fun c_22 => ?_) (fun c_22 => ?_)
  · try simp only [if_neg c_22] at hQ
    refine ev_iload_n (pc := 40) dX11_read_40 rfl ?_
    exact ev_iret (pc := 41) dX11_read_41 rfl (by decide) (by decide) (hQ _ _ ⟨rfl, rfl⟩)
  · try simp only [if_pos c_22] at hQ
    refine ev_aload_n (pc := 25) dX11_read_25 rfl ?_
    refine ev_aload_n (pc := 26) dX11_read_26 rfl ?_
    refine tv_getr (pc := 27) (d := 33) dX11_read_27 fl_X11_63 (by decide) rfl rfl ?_
    refine ev_aload_n (pc := 30) dX11_read_30 rfl ?_
    refine tv_getr (pc := 31) (d := 60) dX11_read_31 fl_X11_88 (by decide) rfl rfl ?_
    refine ev_V (r := some (.ref (cw_z g + 37))) (pc := 34) dX11_read_34 lk_X11_106 cd_X4_swapDraft ar_X4_swapDraft ⟨by decide, rfl, rfl⟩ (cv_swap g (qI18_X11_read_0_tFx n I A J t) (pA_X4_parse_33_32_tFx n I A J (false, t.2) (I 0 13)) J (false, true)) (show 33 < 120 by decide) rfl rfl rfl rfl (Nat.le_of_ble_eq_true rfl) ⟨by decide, by decide⟩ ?_
    refine tw_swap (pc := 37) (t := (false, true)) dX11_read_37 fp_X11_88 ?_
    refine ev_iload_n (pc := 40) dX11_read_40 rfl ?_
    exact ev_iret (pc := 41) dX11_read_41 rfl (by decide) (by decide) (hQ _ _ ⟨rfl, rfl⟩)

def qA6_X11_decidingRule_0_tFx (n : Nat) (I : Nat → Nat → Int32) (A : Nat → Nat → Int32) (J : Nat → Nat → Int64) (t : Bool × Bool) (x1 : Int32) (x2 : Int32) (x3 : Int32) (x4 : Int32) (x5 : Int32) (x6 : Int32) : Nat → Nat → Int32 := cw_u A 45 ((0 : Int32)).toNatClampNeg x2
def qA14_X11_decidingRule_0_tFx (n : Nat) (I : Nat → Nat → Int32) (A : Nat → Nat → Int32) (J : Nat → Nat → Int64) (t : Bool × Bool) (x1 : Int32) (x2 : Int32) (x3 : Int32) (x4 : Int32) (x5 : Int32) (x6 : Int32) : Nat → Nat → Int32 := cw_u (qA6_X11_decidingRule_0_tFx n I A J t x1 x2 x3 x4 x5 x6) 45 ((1 : Int32)).toNatClampNeg x5
def qA22_X11_decidingRule_0_tFx (n : Nat) (I : Nat → Nat → Int32) (A : Nat → Nat → Int32) (J : Nat → Nat → Int64) (t : Bool × Bool) (x1 : Int32) (x2 : Int32) (x3 : Int32) (x4 : Int32) (x5 : Int32) (x6 : Int32) : Nat → Nat → Int32 := cw_u (qA14_X11_decidingRule_0_tFx n I A J t x1 x2 x3 x4 x5 x6) 45 ((2 : Int32)).toNatClampNeg x4
def qA29_X11_decidingRule_0_tFx (n : Nat) (I : Nat → Nat → Int32) (A : Nat → Nat → Int32) (J : Nat → Nat → Int64) (t : Bool × Bool) (x1 : Int32) (x2 : Int32) (x3 : Int32) (x4 : Int32) (x5 : Int32) (x6 : Int32) : Nat → Nat → Int32 := cw_u (qA22_X11_decidingRule_0_tFx n I A J t x1 x2 x3 x4 x5 x6) 45 ((3 : Int32)).toNatClampNeg x3
def qA44_X11_decidingRule_0_tFx (n : Nat) (I : Nat → Nat → Int32) (A : Nat → Nat → Int32) (J : Nat → Nat → Int64) (t : Bool × Bool) (x1 : Int32) (x2 : Int32) (x3 : Int32) (x4 : Int32) (x5 : Int32) (x6 : Int32) : Nat → Nat → Int32 := cw_u (qA29_X11_decidingRule_0_tFx n I A J t x1 x2 x3 x4 x5 x6) 45 ((4 : Int32)).toNatClampNeg (px_X1_landOf_19 n I (qA29_X11_decidingRule_0_tFx n I A J t x1 x2 x3 x4 x5 x6) J (false, t.2) x6)
def qA58_X11_decidingRule_0_tFx (n : Nat) (I : Nat → Nat → Int32) (A : Nat → Nat → Int32) (J : Nat → Nat → Int64) (t : Bool × Bool) (x1 : Int32) (x2 : Int32) (x3 : Int32) (x4 : Int32) (x5 : Int32) (x6 : Int32) : Nat → Nat → Int32 := cw_u (qA44_X11_decidingRule_0_tFx n I A J t x1 x2 x3 x4 x5 x6) 45 ((5 : Int32)).toNatClampNeg (px_X2_powerOf_9 n I (qA44_X11_decidingRule_0_tFx n I A J t x1 x2 x3 x4 x5 x6) J (false, t.2) x1)
def qA74_X11_decidingRule_0_tFx (n : Nat) (I : Nat → Nat → Int32) (A : Nat → Nat → Int32) (J : Nat → Nat → Int64) (t : Bool × Bool) (x1 : Int32) (x2 : Int32) (x3 : Int32) (x4 : Int32) (x5 : Int32) (x6 : Int32) : Nat → Nat → Int32 := cw_u (qA58_X11_decidingRule_0_tFx n I A J t x1 x2 x3 x4 x5 x6) 45 ((6 : Int32)).toNatClampNeg (px_X1_dayOf_19 n I (qA58_X11_decidingRule_0_tFx n I A J t x1 x2 x3 x4 x5 x6) J (false, t.2) x6)
def qA83_X11_decidingRule_0_tFx (n : Nat) (I : Nat → Nat → Int32) (A : Nat → Nat → Int32) (J : Nat → Nat → Int64) (t : Bool × Bool) (x1 : Int32) (x2 : Int32) (x3 : Int32) (x4 : Int32) (x5 : Int32) (x6 : Int32) : Nat → Nat → Int32 := cw_u (qA74_X11_decidingRule_0_tFx n I A J t x1 x2 x3 x4 x5 x6) 45 ((7 : Int32)).toNatClampNeg x6
def pb_X11_decidingRule_0_tFx (n : Nat) (I : Nat → Nat → Int32) (A : Nat → Nat → Int32) (J : Nat → Nat → Int64) (t : Bool × Bool) (x1 : Int32) (x2 : Int32) (x3 : Int32) (x4 : Int32) (x5 : Int32) (x6 : Int32) : Prop := vp_in 0 8 ∧ vp_in 1 8 ∧ vp_in 2 8 ∧ vp_in 3 8 ∧ pb_X1_landOf_19 n I (qA29_X11_decidingRule_0_tFx n I A J t x1 x2 x3 x4 x5 x6) J (false, t.2) x6 ∧ vp_in 4 8 ∧ pb_X2_powerOf_9 n I (qA44_X11_decidingRule_0_tFx n I A J t x1 x2 x3 x4 x5 x6) J (false, t.2) x1 ∧ vp_in 5 8 ∧ pb_X1_dayOf_19 n I (qA58_X11_decidingRule_0_tFx n I A J t x1 x2 x3 x4 x5 x6) J (false, t.2) x6 ∧ vp_in 6 8 ∧ vp_in 7 8 ∧ pb_X10_firstHolding_60_45 n I (qA83_X11_decidingRule_0_tFx n I A J t x1 x2 x3 x4 x5 x6) J (false, t.2) x4
def px_X11_decidingRule_0_tFx (n : Nat) (I : Nat → Nat → Int32) (A : Nat → Nat → Int32) (J : Nat → Nat → Int64) (t : Bool × Bool) (x1 : Int32) (x2 : Int32) (x3 : Int32) (x4 : Int32) (x5 : Int32) (x6 : Int32) : Int32 := (px_X10_firstHolding_60_45 n I (qA83_X11_decidingRule_0_tFx n I A J t x1 x2 x3 x4 x5 x6) J (false, t.2) x4)
def pA_X11_decidingRule_0_tFx (n : Nat) (I : Nat → Nat → Int32) (A : Nat → Nat → Int32) (J : Nat → Nat → Int64) (t : Bool × Bool) (x1 : Int32) (x2 : Int32) (x3 : Int32) (x4 : Int32) (x5 : Int32) (x6 : Int32) : Nat → Nat → Int32 := (pA_X10_firstHolding_60_45 n I (qA83_X11_decidingRule_0_tFx n I A J t x1 x2 x3 x4 x5 x6) J (false, t.2) x4)
set_option maxRecDepth 100000 in
set_option maxHeartbeats 4000000 in
theorem cv_X11_decidingRule_0_tFx (g : cw_G) (n : Nat) (I : Nat → Nat → Int32) (A : Nat → Nat → Int32) (J : Nat → Nat → Int64) (t : Bool × Bool) (x1 : Int32) (x2 : Int32) (x3 : Int32) (x4 : Int32) (x5 : Int32) (x6 : Int32) (hb : pb_X11_decidingRule_0_tFx n I A J t x1 x2 x3 x4 x5 x6) : Cd g mX11_decidingRule [(.ref (cw_z g + 0)), (.int x1), (.int x2), (.int x3), (.int x4), (.int x5), (.int x6)] (hp g I A J (false, t.2)) (some (.int (px_X11_decidingRule_0_tFx n I A J t x1 x2 x3 x4 x5 x6))) (hp g I (pA_X11_decidingRule_0_tFx n I A J t x1 x2 x3 x4 x5 x6) J (false, t.2)) := by
  unfold pb_X11_decidingRule_0_tFx at hb
  unfold px_X11_decidingRule_0_tFx pA_X11_decidingRule_0_tFx
  refine Cd.of rfl (Nat.le_of_ble_eq_true rfl) (ev_gen (fun Q hQ => ?_))
  refine ev_aload_n (pc := 0) dX11_decidingRule_0 rfl ?_
  refine tv_getr (pc := 1) (d := 45) dX11_decidingRule_1 fl_X11_67 (by decide) rfl rfl ?_
  refine ev_iconst (pc := 4) (v := 0) dX11_decidingRule_4 (by decide) ?_
  refine ev_iload_n (pc := 5) dX11_decidingRule_5 rfl ?_
  refine tw_iast (pc := 6) (A2 := (qA6_X11_decidingRule_0_tFx n I A J t x1 x2 x3 x4 x5 x6)) dX11_decidingRule_6 (by decide) rfl hb.1 rfl ?_
  replace hb := hb.2
  refine ev_aload_n (pc := 7) dX11_decidingRule_7 rfl ?_
  refine tv_getr (pc := 8) (d := 45) dX11_decidingRule_8 fl_X11_67 (by decide) rfl rfl ?_
  refine ev_iconst (pc := 11) (v := 1) dX11_decidingRule_11 (by decide) ?_
  refine ev_iload (pc := 12) dX11_decidingRule_12 rfl ?_
  refine tw_iast (pc := 14) (A2 := (qA14_X11_decidingRule_0_tFx n I A J t x1 x2 x3 x4 x5 x6)) dX11_decidingRule_14 (by decide) rfl hb.1 rfl ?_
  replace hb := hb.2
  refine ev_aload_n (pc := 15) dX11_decidingRule_15 rfl ?_
  refine tv_getr (pc := 16) (d := 45) dX11_decidingRule_16 fl_X11_67 (by decide) rfl rfl ?_
  refine ev_iconst (pc := 19) (v := 2) dX11_decidingRule_19 (by decide) ?_
  refine ev_iload (pc := 20) dX11_decidingRule_20 rfl ?_
  refine tw_iast (pc := 22) (A2 := (qA22_X11_decidingRule_0_tFx n I A J t x1 x2 x3 x4 x5 x6)) dX11_decidingRule_22 (by decide) rfl hb.1 rfl ?_
  replace hb := hb.2
  refine ev_aload_n (pc := 23) dX11_decidingRule_23 rfl ?_
  refine tv_getr (pc := 24) (d := 45) dX11_decidingRule_24 fl_X11_67 (by decide) rfl rfl ?_
  refine ev_iconst (pc := 27) (v := 3) dX11_decidingRule_27 (by decide) ?_
  refine ev_iload_n (pc := 28) dX11_decidingRule_28 rfl ?_
  refine tw_iast (pc := 29) (A2 := (qA29_X11_decidingRule_0_tFx n I A J t x1 x2 x3 x4 x5 x6)) dX11_decidingRule_29 (by decide) rfl hb.1 rfl ?_
  replace hb := hb.2
  refine ev_aload_n (pc := 30) dX11_decidingRule_30 rfl ?_
  refine tv_getr (pc := 31) (d := 45) dX11_decidingRule_31 fl_X11_67 (by decide) rfl rfl ?_
  refine ev_iconst (pc := 34) (v := 4) dX11_decidingRule_34 (by decide) ?_
  refine ev_aload_n (pc := 35) dX11_decidingRule_35 rfl ?_
  refine tv_getr (pc := 36) (d := 19) dX11_decidingRule_36 fl_X11_45 (by decide) rfl rfl ?_
  refine ev_iload (pc := 39) dX11_decidingRule_39 rfl ?_
  refine ev_Vi (pc := 41) dX11_decidingRule_41 lk_X11_263 cd_X1_landOf ar_X1_landOf ⟨by decide, rfl, rfl⟩ (cv_X1_landOf_19 g n I (qA29_X11_decidingRule_0_tFx n I A J t x1 x2 x3 x4 x5 x6) J (false, t.2) x6 hb.1) (show 19 < 120 by decide) rfl rfl rfl rfl (Nat.le_of_ble_eq_true rfl) ⟨by decide, by decide⟩ ?_
  replace hb := hb.2
  refine tw_iast (pc := 44) (A2 := (qA44_X11_decidingRule_0_tFx n I A J t x1 x2 x3 x4 x5 x6)) dX11_decidingRule_44 (by decide) rfl hb.1 rfl ?_
  replace hb := hb.2
  refine ev_aload_n (pc := 45) dX11_decidingRule_45 rfl ?_
  refine tv_getr (pc := 46) (d := 45) dX11_decidingRule_46 fl_X11_67 (by decide) rfl rfl ?_
  refine ev_iconst (pc := 49) (v := 5) dX11_decidingRule_49 (by decide) ?_
  refine ev_aload_n (pc := 50) dX11_decidingRule_50 rfl ?_
  refine tv_getr (pc := 51) (d := 9) dX11_decidingRule_51 fl_X11_24 (by decide) rfl rfl ?_
  refine ev_iload_n (pc := 54) dX11_decidingRule_54 rfl ?_
  refine ev_Vi (pc := 55) dX11_decidingRule_55 lk_X11_287 cd_X2_powerOf ar_X2_powerOf ⟨by decide, rfl, rfl⟩ (cv_X2_powerOf_9 g n I (qA44_X11_decidingRule_0_tFx n I A J t x1 x2 x3 x4 x5 x6) J (false, t.2) x1 hb.1) (show 9 < 120 by decide) rfl rfl rfl rfl (Nat.le_of_ble_eq_true rfl) ⟨by decide, by decide⟩ ?_
  replace hb := hb.2
  refine tw_iast (pc := 58) (A2 := (qA58_X11_decidingRule_0_tFx n I A J t x1 x2 x3 x4 x5 x6)) dX11_decidingRule_58 (by decide) rfl hb.1 rfl ?_
  replace hb := hb.2
  refine ev_aload_n (pc := 59) dX11_decidingRule_59 rfl ?_
  refine tv_getr (pc := 60) (d := 45) dX11_decidingRule_60 fl_X11_67 (by decide) rfl rfl ?_
  refine ev_bipush (pc := 63) (v := 6) dX11_decidingRule_63 (by decide) ?_
  refine ev_aload_n (pc := 65) dX11_decidingRule_65 rfl ?_
  refine tv_getr (pc := 66) (d := 19) dX11_decidingRule_66 fl_X11_45 (by decide) rfl rfl ?_
  refine ev_iload (pc := 69) dX11_decidingRule_69 rfl ?_
  refine ev_Vi (pc := 71) dX11_decidingRule_71 lk_X11_269 cd_X1_dayOf ar_X1_dayOf ⟨by decide, rfl, rfl⟩ (cv_X1_dayOf_19 g n I (qA58_X11_decidingRule_0_tFx n I A J t x1 x2 x3 x4 x5 x6) J (false, t.2) x6 hb.1) (show 19 < 120 by decide) rfl rfl rfl rfl (Nat.le_of_ble_eq_true rfl) ⟨by decide, by decide⟩ ?_
  replace hb := hb.2
  refine tw_iast (pc := 74) (A2 := (qA74_X11_decidingRule_0_tFx n I A J t x1 x2 x3 x4 x5 x6)) dX11_decidingRule_74 (by decide) rfl hb.1 rfl ?_
  replace hb := hb.2
  refine ev_aload_n (pc := 75) dX11_decidingRule_75 rfl ?_
  refine tv_getr (pc := 76) (d := 45) dX11_decidingRule_76 fl_X11_67 (by decide) rfl rfl ?_
  refine ev_bipush (pc := 79) (v := 7) dX11_decidingRule_79 (by decide) ?_
  refine ev_iload (pc := 81) dX11_decidingRule_81 rfl ?_
  refine tw_iast (pc := 83) (A2 := (qA83_X11_decidingRule_0_tFx n I A J t x1 x2 x3 x4 x5 x6)) dX11_decidingRule_83 (by decide) rfl hb.1 rfl ?_
  replace hb := hb.2
  refine ev_aload_n (pc := 84) dX11_decidingRule_84 rfl ?_
  refine tv_getr (pc := 85) (d := 60) dX11_decidingRule_85 fl_X11_88 (by decide) rfl rfl ?_
  refine ev_iload (pc := 88) dX11_decidingRule_88 rfl ?_
  refine ev_aload_n (pc := 90) dX11_decidingRule_90 rfl ?_
  refine tv_getr (pc := 91) (d := 45) dX11_decidingRule_91 fl_X11_67 (by decide) rfl rfl ?_
  refine ev_Vi (pc := 94) dX11_decidingRule_94 lk_X11_294 cd_X10_firstHolding ar_X10_firstHolding ⟨by decide, rfl, rfl⟩ (cv_X10_firstHolding_60_45 g n I (qA83_X11_decidingRule_0_tFx n I A J t x1 x2 x3 x4 x5 x6) J (false, t.2) x4 hb) (show 60 < 120 by decide) rfl rfl rfl rfl (Nat.le_of_ble_eq_true rfl) ⟨by decide, by decide⟩ ?_
  exact ev_iret (pc := 97) dX11_decidingRule_97 rfl (by decide) (by decide) (hQ _ _ ⟨rfl, rfl⟩)

def q26_X11_firstYield_0_tFx (n : Nat) (I : Nat → Nat → Int32) (A : Nat → Nat → Int32) (J : Nat → Nat → Int64) (t : Bool × Bool) (x1 : Int32) (x2 : Int32) (x3 : Int32) (x4 : Int32) (x5 : Int32) (x6 : Int32) (A3 : Nat → Nat → Int32) (v3_7 : Int32) : Int32 := (px_X1_noticeOn_19 n I A3 J (false, t.2) x2 v3_7)
def q78_X11_firstYield_0_tFx (n : Nat) (I : Nat → Nat → Int32) (A : Nat → Nat → Int32) (J : Nat → Nat → Int64) (t : Bool × Bool) (x1 : Int32) (x2 : Int32) (x3 : Int32) (x4 : Int32) (x5 : Int32) (x6 : Int32) (A3 : Nat → Nat → Int32) (v3_7 : Int32) : Int32 := v3_7 + 1
def lp_X11_firstYield_0_tFx_3 (n : Nat) (I : Nat → Nat → Int32) (A : Nat → Nat → Int32) (J : Nat → Nat → Int64) (t : Bool × Bool) (x1 : Int32) (x2 : Int32) (x3 : Int32) (x4 : Int32) (x5 : Int32) (x6 : Int32) : Nat → (Nat → Nat → Int32) → (Int32) → Int32 × (Nat → Nat → Int32)
  | 0, A3, v3_7 => (0, A3)
  | f + 1, A3, v3_7 => if (px_X1_noticesOn_19 n I A3 J (false, t.2) x2) ≤ v3_7 then ((-1), A3) else if (q26_X11_firstYield_0_tFx n I A J t x1 x2 x3 x4 x5 x6 A3 v3_7) < x6 then if (px_X11_clashes_0 n I A3 J (false, t.2) (q26_X11_firstYield_0_tFx n I A J t x1 x2 x3 x4 x5 x6 A3 v3_7) x2 x3 x4 x5) = 0 then lp_X11_firstYield_0_tFx_3 n I A J t x1 x2 x3 x4 x5 x6 f A3 (q78_X11_firstYield_0_tFx n I A J t x1 x2 x3 x4 x5 x6 A3 v3_7) else if (px_X10_weYieldBy_60 n I (pA_X11_decidingRule_0_tFx n I A3 J (false, t.2) x1 x2 x3 x4 x5 (q26_X11_firstYield_0_tFx n I A J t x1 x2 x3 x4 x5 x6 A3 v3_7)) J (false, t.2) (px_X11_decidingRule_0_tFx n I A3 J (false, t.2) x1 x2 x3 x4 x5 (q26_X11_firstYield_0_tFx n I A J t x1 x2 x3 x4 x5 x6 A3 v3_7))) = 0 then lp_X11_firstYield_0_tFx_3 n I A J t x1 x2 x3 x4 x5 x6 f (pA_X11_decidingRule_0_tFx n I A3 J (false, t.2) x1 x2 x3 x4 x5 (q26_X11_firstYield_0_tFx n I A J t x1 x2 x3 x4 x5 x6 A3 v3_7)) (q78_X11_firstYield_0_tFx n I A J t x1 x2 x3 x4 x5 x6 A3 v3_7) else ((q26_X11_firstYield_0_tFx n I A J t x1 x2 x3 x4 x5 x6 A3 v3_7), (pA_X11_decidingRule_0_tFx n I A3 J (false, t.2) x1 x2 x3 x4 x5 (q26_X11_firstYield_0_tFx n I A J t x1 x2 x3 x4 x5 x6 A3 v3_7))) else ((-1), A3)
def lb_X11_firstYield_0_tFx_3 (n : Nat) (I : Nat → Nat → Int32) (A : Nat → Nat → Int32) (J : Nat → Nat → Int64) (t : Bool × Bool) (x1 : Int32) (x2 : Int32) (x3 : Int32) (x4 : Int32) (x5 : Int32) (x6 : Int32) : Nat → (Nat → Nat → Int32) → (Int32) → Prop
  | 0, _, _ => False
  | f + 1, A3, v3_7 => pb_X1_noticesOn_19 n I A3 J (false, t.2) x2 ∧ (¬ (px_X1_noticesOn_19 n I A3 J (false, t.2) x2) ≤ v3_7 → pb_X1_noticeOn_19 n I A3 J (false, t.2) x2 v3_7 ∧ ((q26_X11_firstYield_0_tFx n I A J t x1 x2 x3 x4 x5 x6 A3 v3_7) < x6 → pb_X11_clashes_0 n I A3 J (false, t.2) (q26_X11_firstYield_0_tFx n I A J t x1 x2 x3 x4 x5 x6 A3 v3_7) x2 x3 x4 x5 ∧ ((px_X11_clashes_0 n I A3 J (false, t.2) (q26_X11_firstYield_0_tFx n I A J t x1 x2 x3 x4 x5 x6 A3 v3_7) x2 x3 x4 x5) = 0 → lb_X11_firstYield_0_tFx_3 n I A J t x1 x2 x3 x4 x5 x6 f A3 (q78_X11_firstYield_0_tFx n I A J t x1 x2 x3 x4 x5 x6 A3 v3_7)) ∧ (¬ (px_X11_clashes_0 n I A3 J (false, t.2) (q26_X11_firstYield_0_tFx n I A J t x1 x2 x3 x4 x5 x6 A3 v3_7) x2 x3 x4 x5) = 0 → pb_X11_decidingRule_0_tFx n I A3 J (false, t.2) x1 x2 x3 x4 x5 (q26_X11_firstYield_0_tFx n I A J t x1 x2 x3 x4 x5 x6 A3 v3_7) ∧ pb_X10_weYieldBy_60 n I (pA_X11_decidingRule_0_tFx n I A3 J (false, t.2) x1 x2 x3 x4 x5 (q26_X11_firstYield_0_tFx n I A J t x1 x2 x3 x4 x5 x6 A3 v3_7)) J (false, t.2) (px_X11_decidingRule_0_tFx n I A3 J (false, t.2) x1 x2 x3 x4 x5 (q26_X11_firstYield_0_tFx n I A J t x1 x2 x3 x4 x5 x6 A3 v3_7)) ∧ ((px_X10_weYieldBy_60 n I (pA_X11_decidingRule_0_tFx n I A3 J (false, t.2) x1 x2 x3 x4 x5 (q26_X11_firstYield_0_tFx n I A J t x1 x2 x3 x4 x5 x6 A3 v3_7)) J (false, t.2) (px_X11_decidingRule_0_tFx n I A3 J (false, t.2) x1 x2 x3 x4 x5 (q26_X11_firstYield_0_tFx n I A J t x1 x2 x3 x4 x5 x6 A3 v3_7))) = 0 → lb_X11_firstYield_0_tFx_3 n I A J t x1 x2 x3 x4 x5 x6 f (pA_X11_decidingRule_0_tFx n I A3 J (false, t.2) x1 x2 x3 x4 x5 (q26_X11_firstYield_0_tFx n I A J t x1 x2 x3 x4 x5 x6 A3 v3_7)) (q78_X11_firstYield_0_tFx n I A J t x1 x2 x3 x4 x5 x6 A3 v3_7)))))
def pb_X11_firstYield_0_tFx (n : Nat) (I : Nat → Nat → Int32) (A : Nat → Nat → Int32) (J : Nat → Nat → Int64) (t : Bool × Bool) (x1 : Int32) (x2 : Int32) (x3 : Int32) (x4 : Int32) (x5 : Int32) (x6 : Int32) : Prop := lb_X11_firstYield_0_tFx_3 n I A J t x1 x2 x3 x4 x5 x6 n A 0
def px_X11_firstYield_0_tFx (n : Nat) (I : Nat → Nat → Int32) (A : Nat → Nat → Int32) (J : Nat → Nat → Int64) (t : Bool × Bool) (x1 : Int32) (x2 : Int32) (x3 : Int32) (x4 : Int32) (x5 : Int32) (x6 : Int32) : Int32 := (lp_X11_firstYield_0_tFx_3 n I A J t x1 x2 x3 x4 x5 x6 n A 0).1
def pA_X11_firstYield_0_tFx (n : Nat) (I : Nat → Nat → Int32) (A : Nat → Nat → Int32) (J : Nat → Nat → Int64) (t : Bool × Bool) (x1 : Int32) (x2 : Int32) (x3 : Int32) (x4 : Int32) (x5 : Int32) (x6 : Int32) : Nat → Nat → Int32 := (lp_X11_firstYield_0_tFx_3 n I A J t x1 x2 x3 x4 x5 x6 n A 0).2
set_option maxRecDepth 100000 in
set_option maxHeartbeats 4000000 in
theorem lt_X11_firstYield_0_tFx_3 (g : cw_G) (n : Nat) (I : Nat → Nat → Int32) (A : Nat → Nat → Int32) (J : Nat → Nat → Int64) (t : Bool × Bool) (x1 : Int32) (x2 : Int32) (x3 : Int32) (x4 : Int32) (x5 : Int32) (x6 : Int32) : ∀ (f : Nat) (A3 : Nat → Nat → Int32) (v3_7 : Int32), lb_X11_firstYield_0_tFx_3 n I A J t x1 x2 x3 x4 x5 x6 f A3 v3_7 → Ev g mX11_firstYield 0 0 3 [some (.ref (cw_z g + 0)), some (.int x1), some (.int x2), some (.int x3), some (.int x4), some (.int x5), some (.int x6), some (.int v3_7), none] [] (hp g I A3 J (false, t.2)) (fun r2 τ2 => r2 = some (.int (lp_X11_firstYield_0_tFx_3 n I A J t x1 x2 x3 x4 x5 x6 f A3 v3_7).1) ∧ τ2 = (hp g I (lp_X11_firstYield_0_tFx_3 n I A J t x1 x2 x3 x4 x5 x6 f A3 v3_7).2 J (false, t.2))) := by
  intro f
  induction f with
  | zero =>
    intro A3 v3_7 hb
    exact hb.elim
  | succ f ih =>
    intro A3 v3_7 hb
    rw [lb_X11_firstYield_0_tFx_3] at hb
    refine ev_gen (fun Q hQ => ?_)
    rw [lp_X11_firstYield_0_tFx_3] at hQ
    refine ev_iload (pc := 3) dX11_firstYield_3 rfl ?_
    refine ev_aload_n (pc := 5) dX11_firstYield_5 rfl ?_
    refine tv_getr (pc := 6) (d := 19) dX11_firstYield_6 fl_X11_45 (by decide) rfl rfl ?_
    refine ev_iload_n (pc := 9) dX11_firstYield_9 rfl ?_
    refine ev_Vi (pc := 10) dX11_firstYield_10 lk_X11_298 cd_X1_noticesOn ar_X1_noticesOn ⟨by decide, rfl, rfl⟩ (cv_X1_noticesOn_19 g n I A3 J (false, t.2) x2 hb.1) (show 19 < 120 by decide) rfl rfl rfl rfl (Nat.le_of_ble_eq_true rfl) ⟨by decide, by decide⟩ ?_
    replace hb := hb.2
    have hF_13 := hb
    refine ev_icmp_ge (pc := 13) (tgt := 84) dX11_firstYield_13 (by decide) (fun c_13 => ?_) (fun c_13 => ?_)
    · try simp only [if_pos c_13] at hQ
      refine ev_iconst (pc := 84) (v := (-1)) dX11_firstYield_84 (by decide) ?_
      exact ev_iret (pc := 85) dX11_firstYield_85 rfl (by decide) (by decide) (hQ _ _ ⟨rfl, rfl⟩)
    · have hb := hF_13 c_13
      try simp only [if_neg c_13] at hQ
      refine ev_aload_n (pc := 16) dX11_firstYield_16 rfl ?_
      refine tv_getr (pc := 17) (d := 19) dX11_firstYield_17 fl_X11_45 (by decide) rfl rfl ?_
      refine ev_iload_n (pc := 20) dX11_firstYield_20 rfl ?_
      refine ev_iload (pc := 21) dX11_firstYield_21 rfl ?_
      refine ev_Vi (pc := 23) dX11_firstYield_23 lk_X11_301 cd_X1_noticeOn ar_X1_noticeOn ⟨by decide, rfl, rfl⟩ (cv_X1_noticeOn_19 g n I A3 J (false, t.2) x2 v3_7 hb.1) (show 19 < 120 by decide) rfl rfl rfl rfl (Nat.le_of_ble_eq_true rfl) ⟨by decide, by decide⟩ ?_
      replace hb := hb.2
      refine ev_is (y := (q26_X11_firstYield_0_tFx n I A J t x1 x2 x3 x4 x5 x6 A3 v3_7)) rfl ?_
      refine ev_istore_8 (pc := 26) dX11_firstYield_26 (by decide) rfl ?_
      refine ev_iload (pc := 28) dX11_firstYield_28 rfl ?_
      refine ev_iload (pc := 30) dX11_firstYield_30 rfl ?_
      have hT_32 := hb
      refine ev_icmp_lt (pc := 32) (tgt := 37) dX11_firstYield_32 (by decide) (fun c_32 => ?_) (fun c_32 => ?_)
      · have hb := hT_32 c_32
        try simp only [if_pos c_32] at hQ
        refine ev_aload_n (pc := 37) dX11_firstYield_37 rfl ?_
        refine ev_iload (pc := 38) dX11_firstYield_38 rfl ?_
        refine ev_iload_n (pc := 40) dX11_firstYield_40 rfl ?_
        refine ev_iload_n (pc := 41) dX11_firstYield_41 rfl ?_
        refine ev_iload (pc := 42) dX11_firstYield_42 rfl ?_
        refine ev_iload (pc := 44) dX11_firstYield_44 rfl ?_
        refine ev_Vi (pc := 46) dX11_firstYield_46 lk_X11_210 cd_X11_clashes ar_X11_clashes ⟨by decide, rfl, rfl⟩ (cv_X11_clashes_0 g n I A3 J (false, t.2) (q26_X11_firstYield_0_tFx n I A J t x1 x2 x3 x4 x5 x6 A3 v3_7) x2 x3 x4 x5 hb.1) (show 0 < 120 by decide) rfl rfl rfl rfl (Nat.le_of_ble_eq_true rfl) ⟨by decide, by decide⟩ ?_
        replace hb := hb.2
        obtain ⟨hT_49, hF_49⟩ := hb
        refine ev_if_eq (pc := 49) (tgt := 78) dX11_firstYield_49 (by decide) (fun c_49 => ?_) (fun c_49 => ?_)
        · have hb := hT_49 c_49
          try simp only [if_pos c_49] at hQ
          refine ev_iinc_7 (pc := 78) (v := (q78_X11_firstYield_0_tFx n I A J t x1 x2 x3 x4 x5 x6 A3 v3_7)) dX11_firstYield_78 (by decide) rfl rfl ?_
          refine ev_goto (pc := 81) (tgt := 3) dX11_firstYield_81 (by decide) ?_
          exact ev_mono (ev_loc (ih A3 (q78_X11_firstYield_0_tFx n I A J t x1 x2 x3 x4 x5 x6 A3 v3_7) hb) (cw_leS (cw_leS (cw_leS (cw_leS (cw_leS (cw_leS (cw_leS (cw_leS (cw_leN cw_le0)))))))))) hQ
        · have hb := hF_49 c_49
          try simp only [if_neg c_49] at hQ
          refine ev_aload_n (pc := 52) dX11_firstYield_52 rfl ?_
          refine tv_getr (pc := 53) (d := 60) dX11_firstYield_53 fl_X11_88 (by decide) rfl rfl ?_
          refine ev_aload_n (pc := 56) dX11_firstYield_56 rfl ?_
          refine ev_iload_n (pc := 57) dX11_firstYield_57 rfl ?_
          refine ev_iload_n (pc := 58) dX11_firstYield_58 rfl ?_
          refine ev_iload_n (pc := 59) dX11_firstYield_59 rfl ?_
          refine ev_iload (pc := 60) dX11_firstYield_60 rfl ?_
          refine ev_iload (pc := 62) dX11_firstYield_62 rfl ?_
          refine ev_iload (pc := 64) dX11_firstYield_64 rfl ?_
          refine ev_Vi (pc := 66) dX11_firstYield_66 lk_X11_213 cd_X11_decidingRule ar_X11_decidingRule ⟨by decide, rfl, rfl⟩ (cv_X11_decidingRule_0_tFx g n I A3 J (false, t.2) x1 x2 x3 x4 x5 (q26_X11_firstYield_0_tFx n I A J t x1 x2 x3 x4 x5 x6 A3 v3_7) hb.1) (show 0 < 120 by decide) rfl rfl rfl rfl (Nat.le_of_ble_eq_true rfl) ⟨by decide, by decide⟩ ?_
          replace hb := hb.2
          refine ev_Vi (pc := 69) dX11_firstYield_69 lk_X11_304 cd_X10_weYieldBy ar_X10_weYieldBy ⟨by decide, rfl, rfl⟩ (cv_X10_weYieldBy_60 g n I (pA_X11_decidingRule_0_tFx n I A3 J (false, t.2) x1 x2 x3 x4 x5 (q26_X11_firstYield_0_tFx n I A J t x1 x2 x3 x4 x5 x6 A3 v3_7)) J (false, t.2) (px_X11_decidingRule_0_tFx n I A3 J (false, t.2) x1 x2 x3 x4 x5 (q26_X11_firstYield_0_tFx n I A J t x1 x2 x3 x4 x5 x6 A3 v3_7)) hb.1) (show 60 < 120 by decide) rfl rfl rfl rfl (Nat.le_of_ble_eq_true rfl) ⟨by decide, by decide⟩ ?_
          replace hb := hb.2
          have hT_72 := hb
          refine ev_if_eq (pc := 72) (tgt := 78) dX11_firstYield_72 (by decide) (fun c_72 => ?_) (fun c_72 => ?_)
          · have hb := hT_72 c_72
            try simp only [if_pos c_72] at hQ
            refine ev_iinc_7 (pc := 78) (v := (q78_X11_firstYield_0_tFx n I A J t x1 x2 x3 x4 x5 x6 A3 v3_7)) dX11_firstYield_78 (by decide) rfl rfl ?_
            refine ev_goto (pc := 81) (tgt := 3) dX11_firstYield_81 (by decide) ?_
            exact ev_mono (ev_loc (ih (pA_X11_decidingRule_0_tFx n I A3 J (false, t.2) x1 x2 x3 x4 x5 (q26_X11_firstYield_0_tFx n I A J t x1 x2 x3 x4 x5 x6 A3 v3_7)) (q78_X11_firstYield_0_tFx n I A J t x1 x2 x3 x4 x5 x6 A3 v3_7) hb) (cw_leS (cw_leS (cw_leS (cw_leS (cw_leS (cw_leS (cw_leS (cw_leS (cw_leN cw_le0)))))))))) hQ
          · try simp only [if_neg c_72] at hQ
            refine ev_iload (pc := 75) dX11_firstYield_75 rfl ?_
            exact ev_iret (pc := 77) dX11_firstYield_77 rfl (by decide) (by decide) (hQ _ _ ⟨rfl, rfl⟩)
      · try simp only [if_neg c_32] at hQ
        refine ev_iconst (pc := 35) (v := (-1)) dX11_firstYield_35 (by decide) ?_
        exact ev_iret (pc := 36) dX11_firstYield_36 rfl (by decide) (by decide) (hQ _ _ ⟨rfl, rfl⟩)

set_option maxRecDepth 100000 in
set_option maxHeartbeats 4000000 in
theorem cv_X11_firstYield_0_tFx (g : cw_G) (n : Nat) (I : Nat → Nat → Int32) (A : Nat → Nat → Int32) (J : Nat → Nat → Int64) (t : Bool × Bool) (x1 : Int32) (x2 : Int32) (x3 : Int32) (x4 : Int32) (x5 : Int32) (x6 : Int32) (hb : pb_X11_firstYield_0_tFx n I A J t x1 x2 x3 x4 x5 x6) : Cd g mX11_firstYield [(.ref (cw_z g + 0)), (.int x1), (.int x2), (.int x3), (.int x4), (.int x5), (.int x6)] (hp g I A J (false, t.2)) (some (.int (px_X11_firstYield_0_tFx n I A J t x1 x2 x3 x4 x5 x6))) (hp g I (pA_X11_firstYield_0_tFx n I A J t x1 x2 x3 x4 x5 x6) J (false, t.2)) := by
  unfold pb_X11_firstYield_0_tFx at hb
  unfold px_X11_firstYield_0_tFx pA_X11_firstYield_0_tFx
  refine Cd.of rfl (Nat.le_of_ble_eq_true rfl) (ev_gen (fun Q hQ => ?_))
  refine ev_iconst (pc := 0) (v := 0) dX11_firstYield_0 (by decide) ?_
  refine ev_istore_7 (pc := 1) dX11_firstYield_1 (by decide) rfl ?_
  exact ev_mono (ev_loc (lt_X11_firstYield_0_tFx_3 g n I A J t x1 x2 x3 x4 x5 x6 n A 0 hb) cw_le0) hQ

def pb_X11_yields_0_tFx (n : Nat) (I : Nat → Nat → Int32) (A : Nat → Nat → Int32) (J : Nat → Nat → Int64) (t : Bool × Bool) (x1 : Int32) (x2 : Int32) (x3 : Int32) (x4 : Int32) (x5 : Int32) (x6 : Int32) : Prop := (¬ (px_X11_isSending_0 n I A J (false, t.2) x1 x2 x3 x4 x5) = 0 → (¬ (px_X1_canKnow_19 n I A J (false, t.2) x6) = 0 → pb_X11_firstYield_0_tFx n I A J (false, t.2) x1 x2 x3 x4 x5 x6))
def px_X11_yields_0_tFx (n : Nat) (I : Nat → Nat → Int32) (A : Nat → Nat → Int32) (J : Nat → Nat → Int64) (t : Bool × Bool) (x1 : Int32) (x2 : Int32) (x3 : Int32) (x4 : Int32) (x5 : Int32) (x6 : Int32) : Int32 := (if (px_X11_isSending_0 n I A J (false, t.2) x1 x2 x3 x4 x5) = 0 then (-1) else (if (px_X1_canKnow_19 n I A J (false, t.2) x6) = 0 then (-1) else (px_X11_firstYield_0_tFx n I A J (false, t.2) x1 x2 x3 x4 x5 x6)))
def pA_X11_yields_0_tFx (n : Nat) (I : Nat → Nat → Int32) (A : Nat → Nat → Int32) (J : Nat → Nat → Int64) (t : Bool × Bool) (x1 : Int32) (x2 : Int32) (x3 : Int32) (x4 : Int32) (x5 : Int32) (x6 : Int32) : Nat → Nat → Int32 := (if (px_X11_isSending_0 n I A J (false, t.2) x1 x2 x3 x4 x5) = 0 then A else (if (px_X1_canKnow_19 n I A J (false, t.2) x6) = 0 then A else (pA_X11_firstYield_0_tFx n I A J (false, t.2) x1 x2 x3 x4 x5 x6)))
set_option maxRecDepth 100000 in
set_option maxHeartbeats 4000000 in
theorem cv_X11_yields_0_tFx (g : cw_G) (n : Nat) (I : Nat → Nat → Int32) (A : Nat → Nat → Int32) (J : Nat → Nat → Int64) (t : Bool × Bool) (x1 : Int32) (x2 : Int32) (x3 : Int32) (x4 : Int32) (x5 : Int32) (x6 : Int32) (hb : pb_X11_yields_0_tFx n I A J t x1 x2 x3 x4 x5 x6) : Cd g mX11_yields [(.ref (cw_z g + 0)), (.int x1), (.int x2), (.int x3), (.int x4), (.int x5), (.int x6)] (hp g I A J (false, t.2)) (some (.int (px_X11_yields_0_tFx n I A J t x1 x2 x3 x4 x5 x6))) (hp g I (pA_X11_yields_0_tFx n I A J t x1 x2 x3 x4 x5 x6) J (false, t.2)) := by
  unfold pb_X11_yields_0_tFx at hb
  unfold px_X11_yields_0_tFx pA_X11_yields_0_tFx
  refine Cd.of rfl (Nat.le_of_ble_eq_true rfl) (ev_gen (fun Q hQ => ?_))
  refine ev_aload_n (pc := 0) dX11_yields_0 rfl ?_
  refine ev_iload_n (pc := 1) dX11_yields_1 rfl ?_
  refine ev_iload_n (pc := 2) dX11_yields_2 rfl ?_
  refine ev_iload_n (pc := 3) dX11_yields_3 rfl ?_
  refine ev_iload (pc := 4) dX11_yields_4 rfl ?_
  refine ev_iload (pc := 6) dX11_yields_6 rfl ?_
  refine ev_Vi (pc := 8) dX11_yields_8 lk_X11_189 cd_X11_isSending ar_X11_isSending ⟨by decide, rfl, rfl⟩ (cv_X11_isSending_0 g n I A J (false, t.2) x1 x2 x3 x4 x5) (show 0 < 120 by decide) rfl rfl rfl rfl (Nat.le_of_ble_eq_true rfl) ⟨by decide, by decide⟩ ?_
  have hF_11 := hb
  refine ev_if_eq (pc := 11) (tgt := 26) dX11_yields_11 (by decide) (fun c_11 => ?_) (fun c_11 => ?_)
  · try simp only [if_pos c_11] at hQ
    refine ev_iconst (pc := 26) (v := (-1)) dX11_yields_26 (by decide) ?_
    exact ev_iret (pc := 27) dX11_yields_27 rfl (by decide) (by decide) (hQ _ _ ⟨rfl, rfl⟩)
  · have hb := hF_11 c_11
    try simp only [if_neg c_11] at hQ
    refine ev_aload_n (pc := 14) dX11_yields_14 rfl ?_
    refine tv_getr (pc := 15) (d := 19) dX11_yields_15 fl_X11_45 (by decide) rfl rfl ?_
    refine ev_iload (pc := 18) dX11_yields_18 rfl ?_
    refine ev_Vi (pc := 20) dX11_yields_20 lk_X11_179 cd_X1_canKnow ar_X1_canKnow ⟨by decide, rfl, rfl⟩ (cv_X1_canKnow_19 g n I A J (false, t.2) x6) (show 19 < 120 by decide) rfl rfl rfl rfl (Nat.le_of_ble_eq_true rfl) ⟨by decide, by decide⟩ ?_
    have hT_23 := hb
    refine ev_if_ne (pc := 23) (tgt := 28) dX11_yields_23 (by decide) (fun c_23 => ?_) (fun c_23 => ?_)
    · have hb := hT_23 c_23
      try simp only [if_neg c_23] at hQ
      refine ev_aload_n (pc := 28) dX11_yields_28 rfl ?_
      refine ev_iload_n (pc := 29) dX11_yields_29 rfl ?_
      refine ev_iload_n (pc := 30) dX11_yields_30 rfl ?_
      refine ev_iload_n (pc := 31) dX11_yields_31 rfl ?_
      refine ev_iload (pc := 32) dX11_yields_32 rfl ?_
      refine ev_iload (pc := 34) dX11_yields_34 rfl ?_
      refine ev_iload (pc := 36) dX11_yields_36 rfl ?_
      refine ev_Vi (pc := 38) dX11_yields_38 lk_X11_204 cd_X11_firstYield ar_X11_firstYield ⟨by decide, rfl, rfl⟩ (cv_X11_firstYield_0_tFx g n I A J (false, t.2) x1 x2 x3 x4 x5 x6 hb) (show 0 < 120 by decide) rfl rfl rfl rfl (Nat.le_of_ble_eq_true rfl) ⟨by decide, by decide⟩ ?_
      exact ev_iret (pc := 41) dX11_yields_41 rfl (by decide) (by decide) (hQ _ _ ⟨rfl, rfl⟩)
    · try simp only [if_pos c_23] at hQ
      refine ev_iconst (pc := 26) (v := (-1)) dX11_yields_26 (by decide) ?_
      exact ev_iret (pc := 27) dX11_yields_27 rfl (by decide) (by decide) (hQ _ _ ⟨rfl, rfl⟩)

def pb_X11_rule_0_tFx (n : Nat) (I : Nat → Nat → Int32) (A : Nat → Nat → Int32) (J : Nat → Nat → Int64) (t : Bool × Bool) (x1 : Int32) (x2 : Int32) (x3 : Int32) (x4 : Int32) (x5 : Int32) (x6 : Int32) : Prop := (¬ (px_X11_isSending_0 n I A J (false, t.2) x1 x2 x3 x4 x5) = 0 → pb_X1_isNotice_19 n I A J (false, t.2) x6 ∧ (¬ (px_X1_isNotice_19 n I A J (false, t.2) x6) = 0 → pb_X11_clashes_0 n I A J (false, t.2) x6 x2 x3 x4 x5 ∧ (¬ (px_X11_clashes_0 n I A J (false, t.2) x6 x2 x3 x4 x5) = 0 → pb_X11_decidingRule_0_tFx n I A J (false, t.2) x1 x2 x3 x4 x5 x6)))
def px_X11_rule_0_tFx (n : Nat) (I : Nat → Nat → Int32) (A : Nat → Nat → Int32) (J : Nat → Nat → Int64) (t : Bool × Bool) (x1 : Int32) (x2 : Int32) (x3 : Int32) (x4 : Int32) (x5 : Int32) (x6 : Int32) : Int32 := (if (px_X11_isSending_0 n I A J (false, t.2) x1 x2 x3 x4 x5) = 0 then (-1) else (if (px_X1_isNotice_19 n I A J (false, t.2) x6) = 0 then (-1) else (if (px_X11_clashes_0 n I A J (false, t.2) x6 x2 x3 x4 x5) = 0 then (-1) else (px_X11_decidingRule_0_tFx n I A J (false, t.2) x1 x2 x3 x4 x5 x6))))
def pA_X11_rule_0_tFx (n : Nat) (I : Nat → Nat → Int32) (A : Nat → Nat → Int32) (J : Nat → Nat → Int64) (t : Bool × Bool) (x1 : Int32) (x2 : Int32) (x3 : Int32) (x4 : Int32) (x5 : Int32) (x6 : Int32) : Nat → Nat → Int32 := (if (px_X11_isSending_0 n I A J (false, t.2) x1 x2 x3 x4 x5) = 0 then A else (if (px_X1_isNotice_19 n I A J (false, t.2) x6) = 0 then A else (if (px_X11_clashes_0 n I A J (false, t.2) x6 x2 x3 x4 x5) = 0 then A else (pA_X11_decidingRule_0_tFx n I A J (false, t.2) x1 x2 x3 x4 x5 x6))))
set_option maxRecDepth 100000 in
set_option maxHeartbeats 4000000 in
theorem cv_X11_rule_0_tFx (g : cw_G) (n : Nat) (I : Nat → Nat → Int32) (A : Nat → Nat → Int32) (J : Nat → Nat → Int64) (t : Bool × Bool) (x1 : Int32) (x2 : Int32) (x3 : Int32) (x4 : Int32) (x5 : Int32) (x6 : Int32) (hb : pb_X11_rule_0_tFx n I A J t x1 x2 x3 x4 x5 x6) : Cd g mX11_rule [(.ref (cw_z g + 0)), (.int x1), (.int x2), (.int x3), (.int x4), (.int x5), (.int x6)] (hp g I A J (false, t.2)) (some (.int (px_X11_rule_0_tFx n I A J t x1 x2 x3 x4 x5 x6))) (hp g I (pA_X11_rule_0_tFx n I A J t x1 x2 x3 x4 x5 x6) J (false, t.2)) := by
  unfold pb_X11_rule_0_tFx at hb
  unfold px_X11_rule_0_tFx pA_X11_rule_0_tFx
  refine Cd.of rfl (Nat.le_of_ble_eq_true rfl) (ev_gen (fun Q hQ => ?_))
  refine ev_aload_n (pc := 0) dX11_rule_0 rfl ?_
  refine ev_iload_n (pc := 1) dX11_rule_1 rfl ?_
  refine ev_iload_n (pc := 2) dX11_rule_2 rfl ?_
  refine ev_iload_n (pc := 3) dX11_rule_3 rfl ?_
  refine ev_iload (pc := 4) dX11_rule_4 rfl ?_
  refine ev_iload (pc := 6) dX11_rule_6 rfl ?_
  refine ev_Vi (pc := 8) dX11_rule_8 lk_X11_189 cd_X11_isSending ar_X11_isSending ⟨by decide, rfl, rfl⟩ (cv_X11_isSending_0 g n I A J (false, t.2) x1 x2 x3 x4 x5) (show 0 < 120 by decide) rfl rfl rfl rfl (Nat.le_of_ble_eq_true rfl) ⟨by decide, by decide⟩ ?_
  have hF_11 := hb
  refine ev_if_eq (pc := 11) (tgt := 41) dX11_rule_11 (by decide) (fun c_11 => ?_) (fun c_11 => ?_)
  · try simp only [if_pos c_11] at hQ
    refine ev_iconst (pc := 41) (v := (-1)) dX11_rule_41 (by decide) ?_
    exact ev_iret (pc := 42) dX11_rule_42 rfl (by decide) (by decide) (hQ _ _ ⟨rfl, rfl⟩)
  · have hb := hF_11 c_11
    try simp only [if_neg c_11] at hQ
    refine ev_aload_n (pc := 14) dX11_rule_14 rfl ?_
    refine tv_getr (pc := 15) (d := 19) dX11_rule_15 fl_X11_45 (by decide) rfl rfl ?_
    refine ev_iload (pc := 18) dX11_rule_18 rfl ?_
    refine ev_Vi (pc := 20) dX11_rule_20 lk_X11_207 cd_X1_isNotice ar_X1_isNotice ⟨by decide, rfl, rfl⟩ (cv_X1_isNotice_19 g n I A J (false, t.2) x6 hb.1) (show 19 < 120 by decide) rfl rfl rfl rfl (Nat.le_of_ble_eq_true rfl) ⟨by decide, by decide⟩ ?_
    replace hb := hb.2
    have hF_23 := hb
    refine ev_if_eq (pc := 23) (tgt := 41) dX11_rule_23 (by decide) (fun c_23 => ?_) (fun c_23 => ?_)
    · try simp only [if_pos c_23] at hQ
      refine ev_iconst (pc := 41) (v := (-1)) dX11_rule_41 (by decide) ?_
      exact ev_iret (pc := 42) dX11_rule_42 rfl (by decide) (by decide) (hQ _ _ ⟨rfl, rfl⟩)
    · have hb := hF_23 c_23
      try simp only [if_neg c_23] at hQ
      refine ev_aload_n (pc := 26) dX11_rule_26 rfl ?_
      refine ev_iload (pc := 27) dX11_rule_27 rfl ?_
      refine ev_iload_n (pc := 29) dX11_rule_29 rfl ?_
      refine ev_iload_n (pc := 30) dX11_rule_30 rfl ?_
      refine ev_iload (pc := 31) dX11_rule_31 rfl ?_
      refine ev_iload (pc := 33) dX11_rule_33 rfl ?_
      refine ev_Vi (pc := 35) dX11_rule_35 lk_X11_210 cd_X11_clashes ar_X11_clashes ⟨by decide, rfl, rfl⟩ (cv_X11_clashes_0 g n I A J (false, t.2) x6 x2 x3 x4 x5 hb.1) (show 0 < 120 by decide) rfl rfl rfl rfl (Nat.le_of_ble_eq_true rfl) ⟨by decide, by decide⟩ ?_
      replace hb := hb.2
      have hT_38 := hb
      refine ev_if_ne (pc := 38) (tgt := 43) dX11_rule_38 (by decide) (fun c_38 => ?_) (fun c_38 => ?_)
      · have hb := hT_38 c_38
        try simp only [if_neg c_38] at hQ
        refine ev_aload_n (pc := 43) dX11_rule_43 rfl ?_
        refine ev_iload_n (pc := 44) dX11_rule_44 rfl ?_
        refine ev_iload_n (pc := 45) dX11_rule_45 rfl ?_
        refine ev_iload_n (pc := 46) dX11_rule_46 rfl ?_
        refine ev_iload (pc := 47) dX11_rule_47 rfl ?_
        refine ev_iload (pc := 49) dX11_rule_49 rfl ?_
        refine ev_iload (pc := 51) dX11_rule_51 rfl ?_
        refine ev_Vi (pc := 53) dX11_rule_53 lk_X11_213 cd_X11_decidingRule ar_X11_decidingRule ⟨by decide, rfl, rfl⟩ (cv_X11_decidingRule_0_tFx g n I A J (false, t.2) x1 x2 x3 x4 x5 x6 hb) (show 0 < 120 by decide) rfl rfl rfl rfl (Nat.le_of_ble_eq_true rfl) ⟨by decide, by decide⟩ ?_
        exact ev_iret (pc := 56) dX11_rule_56 rfl (by decide) (by decide) (hQ _ _ ⟨rfl, rfl⟩)
      · try simp only [if_pos c_38] at hQ
        refine ev_iconst (pc := 41) (v := (-1)) dX11_rule_41 (by decide) ?_
        exact ev_iret (pc := 42) dX11_rule_42 rfl (by decide) (by decide) (hQ _ _ ⟨rfl, rfl⟩)

def q8_X11_offer_0_tFx (n : Nat) (I : Nat → Nat → Int32) (A : Nat → Nat → Int32) (J : Nat → Nat → Int64) (t : Bool × Bool) (x1 : Int32) (x2 : Int32) (x3 : Int32) (x4 : Int32) (x5 : Int32) : Int32 := (px_X6_landOf_12 n I A J (false, t.2) x1)
def q27_X11_offer_0_tFx (n : Nat) (I : Nat → Nat → Int32) (A : Nat → Nat → Int32) (J : Nat → Nat → Int64) (t : Bool × Bool) (x1 : Int32) (x2 : Int32) (x3 : Int32) (x4 : Int32) (x5 : Int32) : Int32 := (px_X11_firstCell_0 n I A J (false, t.2) (px_X2_siteOf_9 n I A J (false, t.2) x2) (q8_X11_offer_0_tFx n I A J t x1 x2 x3 x4 x5) x3 x4)
def q58_X11_offer_0_tFx (n : Nat) (I : Nat → Nat → Int32) (A : Nat → Nat → Int32) (J : Nat → Nat → Int64) (t : Bool × Bool) (x1 : Int32) (x2 : Int32) (x3 : Int32) (x4 : Int32) (x5 : Int32) (A39 : Nat → Nat → Int32) (v39_8 : Int32) (v39_9 : Int32) (v39_10 : Int32) : Int32 := (px_X11_strengthBy_0 n I A39 J (false, t.2) x2 v39_10 (q8_X11_offer_0_tFx n I A J t x1 x2 x3 x4 x5) x3 (q27_X11_offer_0_tFx n I A J t x1 x2 x3 x4 x5))
def ql8m82_X11_offer_0_tFx (n : Nat) (I : Nat → Nat → Int32) (A : Nat → Nat → Int32) (J : Nat → Nat → Int64) (t : Bool × Bool) (x1 : Int32) (x2 : Int32) (x3 : Int32) (x4 : Int32) (x5 : Int32) (A39 : Nat → Nat → Int32) (v39_8 : Int32) (v39_9 : Int32) (v39_10 : Int32) : Int32 := if (px_X11_firstYield_0_tFx n I A39 J (false, t.2) x2 v39_10 (q8_X11_offer_0_tFx n I A J t x1 x2 x3 x4 x5) x3 x4 x5) = (-1) then (q58_X11_offer_0_tFx n I A J t x1 x2 x3 x4 x5 A39 v39_8 v39_9 v39_10) else v39_8
def ql9m82_X11_offer_0_tFx (n : Nat) (I : Nat → Nat → Int32) (A : Nat → Nat → Int32) (J : Nat → Nat → Int64) (t : Bool × Bool) (x1 : Int32) (x2 : Int32) (x3 : Int32) (x4 : Int32) (x5 : Int32) (A39 : Nat → Nat → Int32) (v39_8 : Int32) (v39_9 : Int32) (v39_10 : Int32) : Int32 := if (px_X11_firstYield_0_tFx n I A39 J (false, t.2) x2 v39_10 (q8_X11_offer_0_tFx n I A J t x1 x2 x3 x4 x5) x3 x4 x5) = (-1) then v39_10 else v39_9
def qAm64_X11_offer_0_tFx (n : Nat) (I : Nat → Nat → Int32) (A : Nat → Nat → Int32) (J : Nat → Nat → Int64) (t : Bool × Bool) (x1 : Int32) (x2 : Int32) (x3 : Int32) (x4 : Int32) (x5 : Int32) (A39 : Nat → Nat → Int32) (v39_8 : Int32) (v39_9 : Int32) (v39_10 : Int32) : Nat → Nat → Int32 := if (q58_X11_offer_0_tFx n I A J t x1 x2 x3 x4 x5 A39 v39_8 v39_9 v39_10) ≤ v39_8 then A39 else (pA_X11_firstYield_0_tFx n I A39 J (false, t.2) x2 v39_10 (q8_X11_offer_0_tFx n I A J t x1 x2 x3 x4 x5) x3 x4 x5)
def ql8m64_X11_offer_0_tFx (n : Nat) (I : Nat → Nat → Int32) (A : Nat → Nat → Int32) (J : Nat → Nat → Int64) (t : Bool × Bool) (x1 : Int32) (x2 : Int32) (x3 : Int32) (x4 : Int32) (x5 : Int32) (A39 : Nat → Nat → Int32) (v39_8 : Int32) (v39_9 : Int32) (v39_10 : Int32) : Int32 := if (q58_X11_offer_0_tFx n I A J t x1 x2 x3 x4 x5 A39 v39_8 v39_9 v39_10) ≤ v39_8 then v39_8 else (ql8m82_X11_offer_0_tFx n I A J t x1 x2 x3 x4 x5 A39 v39_8 v39_9 v39_10)
def ql9m64_X11_offer_0_tFx (n : Nat) (I : Nat → Nat → Int32) (A : Nat → Nat → Int32) (J : Nat → Nat → Int64) (t : Bool × Bool) (x1 : Int32) (x2 : Int32) (x3 : Int32) (x4 : Int32) (x5 : Int32) (A39 : Nat → Nat → Int32) (v39_8 : Int32) (v39_9 : Int32) (v39_10 : Int32) : Int32 := if (q58_X11_offer_0_tFx n I A J t x1 x2 x3 x4 x5 A39 v39_8 v39_9 v39_10) ≤ v39_8 then v39_9 else (ql9m82_X11_offer_0_tFx n I A J t x1 x2 x3 x4 x5 A39 v39_8 v39_9 v39_10)
def q93_X11_offer_0_tFx (n : Nat) (I : Nat → Nat → Int32) (A : Nat → Nat → Int32) (J : Nat → Nat → Int64) (t : Bool × Bool) (x1 : Int32) (x2 : Int32) (x3 : Int32) (x4 : Int32) (x5 : Int32) (A39 : Nat → Nat → Int32) (v39_8 : Int32) (v39_9 : Int32) (v39_10 : Int32) : Int32 := v39_10 + 1
def lp_X11_offer_0_tFx_39 (n : Nat) (I : Nat → Nat → Int32) (A : Nat → Nat → Int32) (J : Nat → Nat → Int64) (t : Bool × Bool) (x1 : Int32) (x2 : Int32) (x3 : Int32) (x4 : Int32) (x5 : Int32) : Nat → (Nat → Nat → Int32) → (Int32) → (Int32) → (Int32) → (Nat → Nat → Int32) × Int32 × Int32 × Int32
  | 0, A39, v39_8, v39_9, v39_10 => (A39, v39_8, v39_9, v39_10)
  | f + 1, A39, v39_8, v39_9, v39_10 => if 6 ≤ v39_10 then (A39, v39_8, v39_9, v39_10) else lp_X11_offer_0_tFx_39 n I A J t x1 x2 x3 x4 x5 f (qAm64_X11_offer_0_tFx n I A J t x1 x2 x3 x4 x5 A39 v39_8 v39_9 v39_10) (ql8m64_X11_offer_0_tFx n I A J t x1 x2 x3 x4 x5 A39 v39_8 v39_9 v39_10) (ql9m64_X11_offer_0_tFx n I A J t x1 x2 x3 x4 x5 A39 v39_8 v39_9 v39_10) (q93_X11_offer_0_tFx n I A J t x1 x2 x3 x4 x5 A39 v39_8 v39_9 v39_10)
def lb_X11_offer_0_tFx_39 (n : Nat) (I : Nat → Nat → Int32) (A : Nat → Nat → Int32) (J : Nat → Nat → Int64) (t : Bool × Bool) (x1 : Int32) (x2 : Int32) (x3 : Int32) (x4 : Int32) (x5 : Int32) : Nat → (Nat → Nat → Int32) → (Int32) → (Int32) → (Int32) → Prop
  | 0, _, _, _, _ => False
  | f + 1, A39, v39_8, v39_9, v39_10 => (¬ 6 ≤ v39_10 → pb_X11_strengthBy_0 n I A39 J (false, t.2) x2 v39_10 (q8_X11_offer_0_tFx n I A J t x1 x2 x3 x4 x5) x3 (q27_X11_offer_0_tFx n I A J t x1 x2 x3 x4 x5) ∧ (¬ (q58_X11_offer_0_tFx n I A J t x1 x2 x3 x4 x5 A39 v39_8 v39_9 v39_10) ≤ v39_8 → pb_X11_firstYield_0_tFx n I A39 J (false, t.2) x2 v39_10 (q8_X11_offer_0_tFx n I A J t x1 x2 x3 x4 x5) x3 x4 x5) ∧ lb_X11_offer_0_tFx_39 n I A J t x1 x2 x3 x4 x5 f (qAm64_X11_offer_0_tFx n I A J t x1 x2 x3 x4 x5 A39 v39_8 v39_9 v39_10) (ql8m64_X11_offer_0_tFx n I A J t x1 x2 x3 x4 x5 A39 v39_8 v39_9 v39_10) (ql9m64_X11_offer_0_tFx n I A J t x1 x2 x3 x4 x5 A39 v39_8 v39_9 v39_10) (q93_X11_offer_0_tFx n I A J t x1 x2 x3 x4 x5 A39 v39_8 v39_9 v39_10))
def qAw39_X11_offer_0_tFx (n : Nat) (I : Nat → Nat → Int32) (A : Nat → Nat → Int32) (J : Nat → Nat → Int64) (t : Bool × Bool) (x1 : Int32) (x2 : Int32) (x3 : Int32) (x4 : Int32) (x5 : Int32) : Nat → Nat → Int32 := (lp_X11_offer_0_tFx_39 n I A J t x1 x2 x3 x4 x5 n A 9 (-1) 0).1
def q8w39_X11_offer_0_tFx (n : Nat) (I : Nat → Nat → Int32) (A : Nat → Nat → Int32) (J : Nat → Nat → Int64) (t : Bool × Bool) (x1 : Int32) (x2 : Int32) (x3 : Int32) (x4 : Int32) (x5 : Int32) : Int32 := (lp_X11_offer_0_tFx_39 n I A J t x1 x2 x3 x4 x5 n A 9 (-1) 0).2.1
def q9w39_X11_offer_0_tFx (n : Nat) (I : Nat → Nat → Int32) (A : Nat → Nat → Int32) (J : Nat → Nat → Int64) (t : Bool × Bool) (x1 : Int32) (x2 : Int32) (x3 : Int32) (x4 : Int32) (x5 : Int32) : Int32 := (lp_X11_offer_0_tFx_39 n I A J t x1 x2 x3 x4 x5 n A 9 (-1) 0).2.2.1
def q10w39_X11_offer_0_tFx (n : Nat) (I : Nat → Nat → Int32) (A : Nat → Nat → Int32) (J : Nat → Nat → Int64) (t : Bool × Bool) (x1 : Int32) (x2 : Int32) (x3 : Int32) (x4 : Int32) (x5 : Int32) : Int32 := (lp_X11_offer_0_tFx_39 n I A J t x1 x2 x3 x4 x5 n A 9 (-1) 0).2.2.2
def qIm102_X11_offer_0_tFx (n : Nat) (I : Nat → Nat → Int32) (A : Nat → Nat → Int32) (J : Nat → Nat → Int64) (t : Bool × Bool) (x1 : Int32) (x2 : Int32) (x3 : Int32) (x4 : Int32) (x5 : Int32) : Nat → Nat → Int32 := if (q9w39_X11_offer_0_tFx n I A J t x1 x2 x3 x4 x5) = (-1) then I else (pI_X3_offer_46 n I (qAw39_X11_offer_0_tFx n I A J t x1 x2 x3 x4 x5) J (false, t.2) x1 x2 (q9w39_X11_offer_0_tFx n I A J t x1 x2 x3 x4 x5) (q8w39_X11_offer_0_tFx n I A J t x1 x2 x3 x4 x5) (px_X9_listenersOf_1 n I (qAw39_X11_offer_0_tFx n I A J t x1 x2 x3 x4 x5) J (false, t.2) (q8_X11_offer_0_tFx n I A J t x1 x2 x3 x4 x5)))
def qAm102_X11_offer_0_tFx (n : Nat) (I : Nat → Nat → Int32) (A : Nat → Nat → Int32) (J : Nat → Nat → Int64) (t : Bool × Bool) (x1 : Int32) (x2 : Int32) (x3 : Int32) (x4 : Int32) (x5 : Int32) : Nat → Nat → Int32 := if (q9w39_X11_offer_0_tFx n I A J t x1 x2 x3 x4 x5) = (-1) then (qAw39_X11_offer_0_tFx n I A J t x1 x2 x3 x4 x5) else (pA_X3_offer_46 n I (qAw39_X11_offer_0_tFx n I A J t x1 x2 x3 x4 x5) J (false, t.2) x1 x2 (q9w39_X11_offer_0_tFx n I A J t x1 x2 x3 x4 x5) (q8w39_X11_offer_0_tFx n I A J t x1 x2 x3 x4 x5) (px_X9_listenersOf_1 n I (qAw39_X11_offer_0_tFx n I A J t x1 x2 x3 x4 x5) J (false, t.2) (q8_X11_offer_0_tFx n I A J t x1 x2 x3 x4 x5)))
def pb_X11_offer_0_tFx (n : Nat) (I : Nat → Nat → Int32) (A : Nat → Nat → Int32) (J : Nat → Nat → Int64) (t : Bool × Bool) (x1 : Int32) (x2 : Int32) (x3 : Int32) (x4 : Int32) (x5 : Int32) : Prop := pb_X6_landOf_12 n I A J (false, t.2) x1 ∧ pb_X2_siteOf_9 n I A J (false, t.2) x2 ∧ pb_X11_firstCell_0 n I A J (false, t.2) (px_X2_siteOf_9 n I A J (false, t.2) x2) (q8_X11_offer_0_tFx n I A J t x1 x2 x3 x4 x5) x3 x4 ∧ lb_X11_offer_0_tFx_39 n I A J t x1 x2 x3 x4 x5 n A 9 (-1) 0 ∧ (¬ (q9w39_X11_offer_0_tFx n I A J t x1 x2 x3 x4 x5) = (-1) → pb_X9_listenersOf_1 n I (qAw39_X11_offer_0_tFx n I A J t x1 x2 x3 x4 x5) J (false, t.2) (q8_X11_offer_0_tFx n I A J t x1 x2 x3 x4 x5) ∧ pb_X3_offer_46 n I (qAw39_X11_offer_0_tFx n I A J t x1 x2 x3 x4 x5) J (false, t.2) x1 x2 (q9w39_X11_offer_0_tFx n I A J t x1 x2 x3 x4 x5) (q8w39_X11_offer_0_tFx n I A J t x1 x2 x3 x4 x5) (px_X9_listenersOf_1 n I (qAw39_X11_offer_0_tFx n I A J t x1 x2 x3 x4 x5) J (false, t.2) (q8_X11_offer_0_tFx n I A J t x1 x2 x3 x4 x5)))
def pI_X11_offer_0_tFx (n : Nat) (I : Nat → Nat → Int32) (A : Nat → Nat → Int32) (J : Nat → Nat → Int64) (t : Bool × Bool) (x1 : Int32) (x2 : Int32) (x3 : Int32) (x4 : Int32) (x5 : Int32) : Nat → Nat → Int32 := (qIm102_X11_offer_0_tFx n I A J t x1 x2 x3 x4 x5)
def pA_X11_offer_0_tFx (n : Nat) (I : Nat → Nat → Int32) (A : Nat → Nat → Int32) (J : Nat → Nat → Int64) (t : Bool × Bool) (x1 : Int32) (x2 : Int32) (x3 : Int32) (x4 : Int32) (x5 : Int32) : Nat → Nat → Int32 := (qAm102_X11_offer_0_tFx n I A J t x1 x2 x3 x4 x5)
set_option maxRecDepth 100000 in
set_option maxHeartbeats 4000000 in
theorem lt_X11_offer_0_tFx_39 (g : cw_G) (n : Nat) (I : Nat → Nat → Int32) (A : Nat → Nat → Int32) (J : Nat → Nat → Int64) (t : Bool × Bool) (x1 : Int32) (x2 : Int32) (x3 : Int32) (x4 : Int32) (x5 : Int32) {Q : Option Value → cw_H → Prop} : ∀ (f : Nat) (A39 : Nat → Nat → Int32) (v39_8 : Int32) (v39_9 : Int32) (v39_10 : Int32) (w0 : Nat → Nat → Int32) (w1 : Int32) (w2 : Int32) (w3 : Int32), lb_X11_offer_0_tFx_39 n I A J t x1 x2 x3 x4 x5 f A39 v39_8 v39_9 v39_10 → (lp_X11_offer_0_tFx_39 n I A J t x1 x2 x3 x4 x5 f A39 v39_8 v39_9 v39_10).1 = w0 → (lp_X11_offer_0_tFx_39 n I A J t x1 x2 x3 x4 x5 f A39 v39_8 v39_9 v39_10).2.1 = w1 → (lp_X11_offer_0_tFx_39 n I A J t x1 x2 x3 x4 x5 f A39 v39_8 v39_9 v39_10).2.2.1 = w2 → (lp_X11_offer_0_tFx_39 n I A J t x1 x2 x3 x4 x5 f A39 v39_8 v39_9 v39_10).2.2.2 = w3 → Ev g mX11_offer 0 0 99 [some (.ref (cw_z g + 0)), some (.int x1), some (.int x2), some (.int x3), some (.int x4), some (.int x5), some (.int (q8_X11_offer_0_tFx n I A J t x1 x2 x3 x4 x5)), some (.int (q27_X11_offer_0_tFx n I A J t x1 x2 x3 x4 x5)), some (.int w1), some (.int w2), some (.int w3), none] [] (hp g I w0 J (false, t.2)) Q → Ev g mX11_offer 0 0 39 [some (.ref (cw_z g + 0)), some (.int x1), some (.int x2), some (.int x3), some (.int x4), some (.int x5), some (.int (q8_X11_offer_0_tFx n I A J t x1 x2 x3 x4 x5)), some (.int (q27_X11_offer_0_tFx n I A J t x1 x2 x3 x4 x5)), some (.int v39_8), some (.int v39_9), some (.int v39_10), none] [] (hp g I A39 J (false, t.2)) Q := by
  intro f
  induction f with
  | zero =>
    intro A39 v39_8 v39_9 v39_10 w0 w1 w2 w3 hb
    exact hb.elim
  | succ f ih =>
    intro A39 v39_8 v39_9 v39_10 w0 w1 w2 w3 hb h0 h1 h2 h3 hE
    rw [lb_X11_offer_0_tFx_39] at hb
    rw [lp_X11_offer_0_tFx_39] at h0 h1 h2 h3
    refine ev_iload (pc := 39) dX11_offer_39 rfl ?_
    refine ev_bipush (pc := 41) (v := 6) dX11_offer_41 (by decide) ?_
    have hF_43 := hb
    refine ev_icmp_ge (pc := 43) (tgt := 99) dX11_offer_43 (by decide) (fun c_43 => ?_) (fun c_43 => ?_)
    · try simp only [if_pos c_43] at h0
      try simp only [if_pos c_43] at h1
      try simp only [if_pos c_43] at h2
      try simp only [if_pos c_43] at h3
      subst h0
      subst h1
      subst h2
      subst h3
      exact ev_loc hE cw_le0
    · have hb := hF_43 c_43
      try simp only [if_neg c_43] at h0
      try simp only [if_neg c_43] at h1
      try simp only [if_neg c_43] at h2
      try simp only [if_neg c_43] at h3
      refine ev_aload_n (pc := 46) dX11_offer_46 rfl ?_
      refine ev_iload_n (pc := 47) dX11_offer_47 rfl ?_
      refine ev_iload (pc := 48) dX11_offer_48 rfl ?_
      refine ev_iload (pc := 50) dX11_offer_50 rfl ?_
      refine ev_iload_n (pc := 52) dX11_offer_52 rfl ?_
      refine ev_iload (pc := 53) dX11_offer_53 rfl ?_
      refine ev_Vi (pc := 55) dX11_offer_55 lk_X11_201 cd_X11_strengthBy ar_X11_strengthBy ⟨by decide, rfl, rfl⟩ (cv_X11_strengthBy_0 g n I A39 J (false, t.2) x2 v39_10 (q8_X11_offer_0_tFx n I A J t x1 x2 x3 x4 x5) x3 (q27_X11_offer_0_tFx n I A J t x1 x2 x3 x4 x5) hb.1) (show 0 < 120 by decide) rfl rfl rfl rfl (Nat.le_of_ble_eq_true rfl) ⟨by decide, by decide⟩ ?_
      replace hb := hb.2
      refine ev_is (y := (q58_X11_offer_0_tFx n I A J t x1 x2 x3 x4 x5 A39 v39_8 v39_9 v39_10)) rfl ?_
      refine ev_istore_11 (pc := 58) dX11_offer_58 (by decide) rfl ?_
      refine ev_iload (pc := 60) dX11_offer_60 rfl ?_
      refine ev_iload (pc := 62) dX11_offer_62 rfl ?_
      obtain ⟨hF_64, hb⟩ := hb
      refine ev_cut (pj := 93) (Lj := [some (.ref (cw_z g + 0)), some (.int x1), some (.int x2), some (.int x3), some (.int x4), some (.int x5), some (.int (q8_X11_offer_0_tFx n I A J t x1 x2 x3 x4 x5)), some (.int (q27_X11_offer_0_tFx n I A J t x1 x2 x3 x4 x5)), some (.int (ql8m64_X11_offer_0_tFx n I A J t x1 x2 x3 x4 x5 A39 v39_8 v39_9 v39_10)), some (.int (ql9m64_X11_offer_0_tFx n I A J t x1 x2 x3 x4 x5 A39 v39_8 v39_9 v39_10)), some (.int v39_10), some (.int (q58_X11_offer_0_tFx n I A J t x1 x2 x3 x4 x5 A39 v39_8 v39_9 v39_10))]) (stj := []) (σj := hp g I (qAm64_X11_offer_0_tFx n I A J t x1 x2 x3 x4 x5 A39 v39_8 v39_9 v39_10) J (false, t.2)) ?_ (fun hJ_64 => ?_)
      rotate_left
      · refine ev_icmp_le (pc := 64) (tgt := 93) dX11_offer_64 (by decide) (fun c_64 => ?_) (fun c_64 => ?_)
        · simp only [qAm64_X11_offer_0_tFx, ql8m64_X11_offer_0_tFx, ql9m64_X11_offer_0_tFx, if_pos c_64] at hJ_64
          exact ev_loc hJ_64 cw_le0
        · have hb := hF_64 c_64
          refine ev_aload_n (pc := 67) dX11_offer_67 rfl ?_
          refine ev_iload_n (pc := 68) dX11_offer_68 rfl ?_
          refine ev_iload (pc := 69) dX11_offer_69 rfl ?_
          refine ev_iload (pc := 71) dX11_offer_71 rfl ?_
          refine ev_iload_n (pc := 73) dX11_offer_73 rfl ?_
          refine ev_iload (pc := 74) dX11_offer_74 rfl ?_
          refine ev_iload (pc := 76) dX11_offer_76 rfl ?_
          refine ev_Vi (pc := 78) dX11_offer_78 lk_X11_204 cd_X11_firstYield ar_X11_firstYield ⟨by decide, rfl, rfl⟩ (cv_X11_firstYield_0_tFx g n I A39 J (false, t.2) x2 v39_10 (q8_X11_offer_0_tFx n I A J t x1 x2 x3 x4 x5) x3 x4 x5 hb) (show 0 < 120 by decide) rfl rfl rfl rfl (Nat.le_of_ble_eq_true rfl) ⟨by decide, by decide⟩ ?_
          refine ev_iconst (pc := 81) (v := (-1)) dX11_offer_81 (by decide) ?_
          refine ev_cut (pj := 93) (Lj := [some (.ref (cw_z g + 0)), some (.int x1), some (.int x2), some (.int x3), some (.int x4), some (.int x5), some (.int (q8_X11_offer_0_tFx n I A J t x1 x2 x3 x4 x5)), some (.int (q27_X11_offer_0_tFx n I A J t x1 x2 x3 x4 x5)), some (.int (ql8m82_X11_offer_0_tFx n I A J t x1 x2 x3 x4 x5 A39 v39_8 v39_9 v39_10)), some (.int (ql9m82_X11_offer_0_tFx n I A J t x1 x2 x3 x4 x5 A39 v39_8 v39_9 v39_10)), some (.int v39_10), some (.int (q58_X11_offer_0_tFx n I A J t x1 x2 x3 x4 x5 A39 v39_8 v39_9 v39_10))]) (stj := []) (σj := hp g I (pA_X11_firstYield_0_tFx n I A39 J (false, t.2) x2 v39_10 (q8_X11_offer_0_tFx n I A J t x1 x2 x3 x4 x5) x3 x4 x5) J (false, t.2)) ?_ (fun hJ_82 => ?_)
          rotate_left
          · refine ev_icmp_ne (pc := 82) (tgt := 93) dX11_offer_82 (by decide) (fun c_82 => ?_) (fun c_82 => ?_)
            · simp only [ql8m82_X11_offer_0_tFx, ql9m82_X11_offer_0_tFx, if_neg c_82] at hJ_82
              exact ev_loc hJ_82 cw_le0
            · refine ev_iload (pc := 85) dX11_offer_85 rfl ?_
              refine ev_istore_8 (pc := 87) dX11_offer_87 (by decide) rfl ?_
              refine ev_iload (pc := 89) dX11_offer_89 rfl ?_
              refine ev_istore_9 (pc := 91) dX11_offer_91 (by decide) rfl ?_
              simp only [ql8m82_X11_offer_0_tFx, ql9m82_X11_offer_0_tFx, if_pos c_82] at hJ_82
              exact ev_loc hJ_82 cw_le0
          simp only [qAm64_X11_offer_0_tFx, ql8m64_X11_offer_0_tFx, ql9m64_X11_offer_0_tFx, if_neg c_64] at hJ_64
          exact ev_loc hJ_64 cw_le0
      refine ev_iinc_10 (pc := 93) (v := (q93_X11_offer_0_tFx n I A J t x1 x2 x3 x4 x5 A39 v39_8 v39_9 v39_10)) dX11_offer_93 (by decide) rfl rfl ?_
      refine ev_goto (pc := 96) (tgt := 39) dX11_offer_96 (by decide) ?_
      exact ev_loc (ih (qAm64_X11_offer_0_tFx n I A J t x1 x2 x3 x4 x5 A39 v39_8 v39_9 v39_10) (ql8m64_X11_offer_0_tFx n I A J t x1 x2 x3 x4 x5 A39 v39_8 v39_9 v39_10) (ql9m64_X11_offer_0_tFx n I A J t x1 x2 x3 x4 x5 A39 v39_8 v39_9 v39_10) (q93_X11_offer_0_tFx n I A J t x1 x2 x3 x4 x5 A39 v39_8 v39_9 v39_10) w0 w1 w2 w3 hb h0 h1 h2 h3 hE) (cw_leS (cw_leS (cw_leS (cw_leS (cw_leS (cw_leS (cw_leS (cw_leS (cw_leS (cw_leS (cw_leS (cw_leN cw_le0))))))))))))

set_option maxRecDepth 100000 in
set_option maxHeartbeats 4000000 in
theorem cv_X11_offer_0_tFx (g : cw_G) (n : Nat) (I : Nat → Nat → Int32) (A : Nat → Nat → Int32) (J : Nat → Nat → Int64) (t : Bool × Bool) (x1 : Int32) (x2 : Int32) (x3 : Int32) (x4 : Int32) (x5 : Int32) (hb : pb_X11_offer_0_tFx n I A J t x1 x2 x3 x4 x5) : Cd g mX11_offer [(.ref (cw_z g + 0)), (.int x1), (.int x2), (.int x3), (.int x4), (.int x5)] (hp g I A J (false, t.2)) none (hp g (pI_X11_offer_0_tFx n I A J t x1 x2 x3 x4 x5) (pA_X11_offer_0_tFx n I A J t x1 x2 x3 x4 x5) J (false, t.2)) := by
  unfold pb_X11_offer_0_tFx at hb
  unfold pI_X11_offer_0_tFx pA_X11_offer_0_tFx
  refine Cd.of rfl (Nat.le_of_ble_eq_true rfl) (ev_gen (fun Q hQ => ?_))
  refine ev_aload_n (pc := 0) dX11_offer_0 rfl ?_
  refine tv_getr (pc := 1) (d := 12) dX11_offer_1 fl_X11_31 (by decide) rfl rfl ?_
  refine ev_iload_n (pc := 4) dX11_offer_4 rfl ?_
  refine ev_Vi (pc := 5) dX11_offer_5 lk_X11_311 cd_X6_landOf ar_X6_landOf ⟨by decide, rfl, rfl⟩ (cv_X6_landOf_12 g n I A J (false, t.2) x1 hb.1) (show 12 < 120 by decide) rfl rfl rfl rfl (Nat.le_of_ble_eq_true rfl) ⟨by decide, by decide⟩ ?_
  replace hb := hb.2
  refine ev_is (y := (q8_X11_offer_0_tFx n I A J t x1 x2 x3 x4 x5)) rfl ?_
  refine ev_istore_6 (pc := 8) dX11_offer_8 (by decide) rfl ?_
  refine ev_aload_n (pc := 10) dX11_offer_10 rfl ?_
  refine ev_aload_n (pc := 11) dX11_offer_11 rfl ?_
  refine tv_getr (pc := 12) (d := 9) dX11_offer_12 fl_X11_24 (by decide) rfl rfl ?_
  refine ev_iload_n (pc := 15) dX11_offer_15 rfl ?_
  refine ev_Vi (pc := 16) dX11_offer_16 lk_X11_193 cd_X2_siteOf ar_X2_siteOf ⟨by decide, rfl, rfl⟩ (cv_X2_siteOf_9 g n I A J (false, t.2) x2 hb.1) (show 9 < 120 by decide) rfl rfl rfl rfl (Nat.le_of_ble_eq_true rfl) ⟨by decide, by decide⟩ ?_
  replace hb := hb.2
  refine ev_iload (pc := 19) dX11_offer_19 rfl ?_
  refine ev_iload_n (pc := 21) dX11_offer_21 rfl ?_
  refine ev_iload (pc := 22) dX11_offer_22 rfl ?_
  refine ev_Vi (pc := 24) dX11_offer_24 lk_X11_197 cd_X11_firstCell ar_X11_firstCell ⟨by decide, rfl, rfl⟩ (cv_X11_firstCell_0 g n I A J (false, t.2) (px_X2_siteOf_9 n I A J (false, t.2) x2) (q8_X11_offer_0_tFx n I A J t x1 x2 x3 x4 x5) x3 x4 hb.1) (show 0 < 120 by decide) rfl rfl rfl rfl (Nat.le_of_ble_eq_true rfl) ⟨by decide, by decide⟩ ?_
  replace hb := hb.2
  refine ev_is (y := (q27_X11_offer_0_tFx n I A J t x1 x2 x3 x4 x5)) rfl ?_
  refine ev_istore_7 (pc := 27) dX11_offer_27 (by decide) rfl ?_
  refine ev_bipush (pc := 29) (v := 9) dX11_offer_29 (by decide) ?_
  refine ev_istore_8 (pc := 31) dX11_offer_31 (by decide) rfl ?_
  refine ev_iconst (pc := 33) (v := (-1)) dX11_offer_33 (by decide) ?_
  refine ev_istore_9 (pc := 34) dX11_offer_34 (by decide) rfl ?_
  refine ev_iconst (pc := 36) (v := 0) dX11_offer_36 (by decide) ?_
  refine ev_istore_10 (pc := 37) dX11_offer_37 (by decide) rfl ?_
  refine lt_X11_offer_0_tFx_39 g n I A J t x1 x2 x3 x4 x5 n A 9 (-1) 0 (qAw39_X11_offer_0_tFx n I A J t x1 x2 x3 x4 x5) (q8w39_X11_offer_0_tFx n I A J t x1 x2 x3 x4 x5) (q9w39_X11_offer_0_tFx n I A J t x1 x2 x3 x4 x5) (q10w39_X11_offer_0_tFx n I A J t x1 x2 x3 x4 x5) hb.1 rfl rfl rfl rfl ?_
  replace hb := hb.2
  refine ev_iload (pc := 99) dX11_offer_99 rfl ?_
  refine ev_iconst (pc := 101) (v := (-1)) dX11_offer_101 (by decide) ?_
  have hF_102 := hb
  refine ev_cut (pj := 127) (Lj := [some (.ref (cw_z g + 0)), some (.int x1), some (.int x2), some (.int x3), some (.int x4), some (.int x5), some (.int (q8_X11_offer_0_tFx n I A J t x1 x2 x3 x4 x5)), some (.int (q27_X11_offer_0_tFx n I A J t x1 x2 x3 x4 x5)), some (.int (q8w39_X11_offer_0_tFx n I A J t x1 x2 x3 x4 x5)), some (.int (q9w39_X11_offer_0_tFx n I A J t x1 x2 x3 x4 x5)), some (.int (q10w39_X11_offer_0_tFx n I A J t x1 x2 x3 x4 x5)), none]) (stj := []) (σj := hp g (qIm102_X11_offer_0_tFx n I A J t x1 x2 x3 x4 x5) (qAm102_X11_offer_0_tFx n I A J t x1 x2 x3 x4 x5) J (false, t.2)) ?_ (fun hJ_102 => ?_)
  rotate_left
  · refine ev_icmp_eq (pc := 102) (tgt := 127) dX11_offer_102 (by decide) (fun c_102 => ?_) (fun c_102 => ?_)
    · simp only [qIm102_X11_offer_0_tFx, qAm102_X11_offer_0_tFx, if_pos c_102] at hJ_102
      exact ev_loc hJ_102 cw_le0
    · have hb := hF_102 c_102
      refine ev_aload_n (pc := 105) dX11_offer_105 rfl ?_
      refine tv_getr (pc := 106) (d := 46) dX11_offer_106 fl_X11_74 (by decide) rfl rfl ?_
      refine ev_iload_n (pc := 109) dX11_offer_109 rfl ?_
      refine ev_iload_n (pc := 110) dX11_offer_110 rfl ?_
      refine ev_iload (pc := 111) dX11_offer_111 rfl ?_
      refine ev_iload (pc := 113) dX11_offer_113 rfl ?_
      refine ev_aload_n (pc := 115) dX11_offer_115 rfl ?_
      refine tv_getr (pc := 116) (d := 1) dX11_offer_116 fl_X11_14 (by decide) rfl rfl ?_
      refine ev_iload (pc := 119) dX11_offer_119 rfl ?_
      refine ev_Vi (pc := 121) dX11_offer_121 lk_X11_322 cd_X9_listenersOf ar_X9_listenersOf ⟨by decide, rfl, rfl⟩ (cv_X9_listenersOf_1 g n I (qAw39_X11_offer_0_tFx n I A J t x1 x2 x3 x4 x5) J (false, t.2) (q8_X11_offer_0_tFx n I A J t x1 x2 x3 x4 x5) hb.1) (show 1 < 120 by decide) rfl rfl rfl rfl (Nat.le_of_ble_eq_true rfl) ⟨by decide, by decide⟩ ?_
      replace hb := hb.2
      refine ev_Vv (pc := 124) dX11_offer_124 lk_X11_325 cd_X3_offer ar_X3_offer ⟨by decide, rfl, rfl⟩ (cv_X3_offer_46 g n I (qAw39_X11_offer_0_tFx n I A J t x1 x2 x3 x4 x5) J (false, t.2) x1 x2 (q9w39_X11_offer_0_tFx n I A J t x1 x2 x3 x4 x5) (q8w39_X11_offer_0_tFx n I A J t x1 x2 x3 x4 x5) (px_X9_listenersOf_1 n I (qAw39_X11_offer_0_tFx n I A J t x1 x2 x3 x4 x5) J (false, t.2) (q8_X11_offer_0_tFx n I A J t x1 x2 x3 x4 x5)) hb) (show 46 < 120 by decide) rfl rfl rfl rfl (Nat.le_of_ble_eq_true rfl) ⟨by decide, by decide⟩ ?_
      simp only [qIm102_X11_offer_0_tFx, qAm102_X11_offer_0_tFx, if_neg c_102] at hJ_102
      exact ev_loc hJ_102 cw_le0
  exact ev_vret (pc := 127) dX11_offer_127 rfl (by decide) (by decide) (hQ _ _ ⟨rfl, rfl⟩)

def qIm66_X11_offerAll_0_tFx (n : Nat) (I : Nat → Nat → Int32) (A : Nat → Nat → Int32) (J : Nat → Nat → Int64) (t : Bool × Bool) (x1 : Int32) (x2 : Int32) (x3 : Int32) (I10 : Nat → Nat → Int32) (A10 : Nat → Nat → Int32) (v10_4 : Int32) (I25 : Nat → Nat → Int32) (A25 : Nat → Nat → Int32) (v25_5 : Int32) : Nat → Nat → Int32 := if (px_X11_isTurned_0 n I25 A25 J (false, t.2) v25_5 (px_X6_landOf_12 n I25 A25 J (false, t.2) v10_4) x2) = 0 then I25 else (pI_X11_offer_0_tFx n I25 A25 J (false, t.2) v10_4 v25_5 x1 x2 x3)
def qAm66_X11_offerAll_0_tFx (n : Nat) (I : Nat → Nat → Int32) (A : Nat → Nat → Int32) (J : Nat → Nat → Int64) (t : Bool × Bool) (x1 : Int32) (x2 : Int32) (x3 : Int32) (I10 : Nat → Nat → Int32) (A10 : Nat → Nat → Int32) (v10_4 : Int32) (I25 : Nat → Nat → Int32) (A25 : Nat → Nat → Int32) (v25_5 : Int32) : Nat → Nat → Int32 := if (px_X11_isTurned_0 n I25 A25 J (false, t.2) v25_5 (px_X6_landOf_12 n I25 A25 J (false, t.2) v10_4) x2) = 0 then A25 else (pA_X11_offer_0_tFx n I25 A25 J (false, t.2) v10_4 v25_5 x1 x2 x3)
def q80_X11_offerAll_0_tFx (n : Nat) (I : Nat → Nat → Int32) (A : Nat → Nat → Int32) (J : Nat → Nat → Int64) (t : Bool × Bool) (x1 : Int32) (x2 : Int32) (x3 : Int32) (I10 : Nat → Nat → Int32) (A10 : Nat → Nat → Int32) (v10_4 : Int32) (I25 : Nat → Nat → Int32) (A25 : Nat → Nat → Int32) (v25_5 : Int32) : Int32 := v25_5 + 1
def lp_X11_offerAll_0_tFx_25 (n : Nat) (I : Nat → Nat → Int32) (A : Nat → Nat → Int32) (J : Nat → Nat → Int64) (t : Bool × Bool) (x1 : Int32) (x2 : Int32) (x3 : Int32) (I10 : Nat → Nat → Int32) (A10 : Nat → Nat → Int32) (v10_4 : Int32) : Nat → (Nat → Nat → Int32) → (Nat → Nat → Int32) → (Int32) → (Nat → Nat → Int32) × (Nat → Nat → Int32) × Int32
  | 0, I25, A25, v25_5 => (I25, A25, v25_5)
  | f + 1, I25, A25, v25_5 => if (I25 9 2) ≤ v25_5 then (I25, A25, v25_5) else if (px_X6_isOn_12 n I25 A25 J (false, t.2) v10_4 x2) = 0 then (I25, A25, v25_5) else lp_X11_offerAll_0_tFx_25 n I A J t x1 x2 x3 I10 A10 v10_4 f (qIm66_X11_offerAll_0_tFx n I A J t x1 x2 x3 I10 A10 v10_4 I25 A25 v25_5) (qAm66_X11_offerAll_0_tFx n I A J t x1 x2 x3 I10 A10 v10_4 I25 A25 v25_5) (q80_X11_offerAll_0_tFx n I A J t x1 x2 x3 I10 A10 v10_4 I25 A25 v25_5)
def lb_X11_offerAll_0_tFx_25 (n : Nat) (I : Nat → Nat → Int32) (A : Nat → Nat → Int32) (J : Nat → Nat → Int64) (t : Bool × Bool) (x1 : Int32) (x2 : Int32) (x3 : Int32) (I10 : Nat → Nat → Int32) (A10 : Nat → Nat → Int32) (v10_4 : Int32) : Nat → (Nat → Nat → Int32) → (Nat → Nat → Int32) → (Int32) → Prop
  | 0, _, _, _ => False
  | f + 1, I25, A25, v25_5 => (¬ (I25 9 2) ≤ v25_5 → pb_X6_isOn_12 n I25 A25 J (false, t.2) v10_4 x2 ∧ (¬ (px_X6_isOn_12 n I25 A25 J (false, t.2) v10_4 x2) = 0 → pb_X6_landOf_12 n I25 A25 J (false, t.2) v10_4 ∧ pb_X11_isTurned_0 n I25 A25 J (false, t.2) v25_5 (px_X6_landOf_12 n I25 A25 J (false, t.2) v10_4) x2 ∧ (¬ (px_X11_isTurned_0 n I25 A25 J (false, t.2) v25_5 (px_X6_landOf_12 n I25 A25 J (false, t.2) v10_4) x2) = 0 → pb_X11_offer_0_tFx n I25 A25 J (false, t.2) v10_4 v25_5 x1 x2 x3) ∧ lb_X11_offerAll_0_tFx_25 n I A J t x1 x2 x3 I10 A10 v10_4 f (qIm66_X11_offerAll_0_tFx n I A J t x1 x2 x3 I10 A10 v10_4 I25 A25 v25_5) (qAm66_X11_offerAll_0_tFx n I A J t x1 x2 x3 I10 A10 v10_4 I25 A25 v25_5) (q80_X11_offerAll_0_tFx n I A J t x1 x2 x3 I10 A10 v10_4 I25 A25 v25_5)))
def qIw25_X11_offerAll_0_tFx (n : Nat) (I : Nat → Nat → Int32) (A : Nat → Nat → Int32) (J : Nat → Nat → Int64) (t : Bool × Bool) (x1 : Int32) (x2 : Int32) (x3 : Int32) (I10 : Nat → Nat → Int32) (A10 : Nat → Nat → Int32) (v10_4 : Int32) : Nat → Nat → Int32 := (lp_X11_offerAll_0_tFx_25 n I A J t x1 x2 x3 I10 A10 v10_4 n I10 A10 0).1
def qAw25_X11_offerAll_0_tFx (n : Nat) (I : Nat → Nat → Int32) (A : Nat → Nat → Int32) (J : Nat → Nat → Int64) (t : Bool × Bool) (x1 : Int32) (x2 : Int32) (x3 : Int32) (I10 : Nat → Nat → Int32) (A10 : Nat → Nat → Int32) (v10_4 : Int32) : Nat → Nat → Int32 := (lp_X11_offerAll_0_tFx_25 n I A J t x1 x2 x3 I10 A10 v10_4 n I10 A10 0).2.1
def q5w25_X11_offerAll_0_tFx (n : Nat) (I : Nat → Nat → Int32) (A : Nat → Nat → Int32) (J : Nat → Nat → Int64) (t : Bool × Bool) (x1 : Int32) (x2 : Int32) (x3 : Int32) (I10 : Nat → Nat → Int32) (A10 : Nat → Nat → Int32) (v10_4 : Int32) : Int32 := (lp_X11_offerAll_0_tFx_25 n I A J t x1 x2 x3 I10 A10 v10_4 n I10 A10 0).2.2
def q86_X11_offerAll_0_tFx (n : Nat) (I : Nat → Nat → Int32) (A : Nat → Nat → Int32) (J : Nat → Nat → Int64) (t : Bool × Bool) (x1 : Int32) (x2 : Int32) (x3 : Int32) (I10 : Nat → Nat → Int32) (A10 : Nat → Nat → Int32) (v10_4 : Int32) : Int32 := v10_4 + 1
def lp_X11_offerAll_0_tFx_10 (n : Nat) (I : Nat → Nat → Int32) (A : Nat → Nat → Int32) (J : Nat → Nat → Int64) (t : Bool × Bool) (x1 : Int32) (x2 : Int32) (x3 : Int32) : Nat → (Nat → Nat → Int32) → (Nat → Nat → Int32) → (Int32) → (Nat → Nat → Int32) × (Nat → Nat → Int32) × Int32
  | 0, I10, A10, v10_4 => (I10, A10, v10_4)
  | f + 1, I10, A10, v10_4 => if (I10 12 3) ≤ v10_4 then (I10, A10, v10_4) else lp_X11_offerAll_0_tFx_10 n I A J t x1 x2 x3 f (qIw25_X11_offerAll_0_tFx n I A J t x1 x2 x3 I10 A10 v10_4) (qAw25_X11_offerAll_0_tFx n I A J t x1 x2 x3 I10 A10 v10_4) (q86_X11_offerAll_0_tFx n I A J t x1 x2 x3 I10 A10 v10_4)
def lb_X11_offerAll_0_tFx_10 (n : Nat) (I : Nat → Nat → Int32) (A : Nat → Nat → Int32) (J : Nat → Nat → Int64) (t : Bool × Bool) (x1 : Int32) (x2 : Int32) (x3 : Int32) : Nat → (Nat → Nat → Int32) → (Nat → Nat → Int32) → (Int32) → Prop
  | 0, _, _, _ => False
  | f + 1, I10, A10, v10_4 => (¬ (I10 12 3) ≤ v10_4 → lb_X11_offerAll_0_tFx_25 n I A J t x1 x2 x3 I10 A10 v10_4 n I10 A10 0 ∧ lb_X11_offerAll_0_tFx_10 n I A J t x1 x2 x3 f (qIw25_X11_offerAll_0_tFx n I A J t x1 x2 x3 I10 A10 v10_4) (qAw25_X11_offerAll_0_tFx n I A J t x1 x2 x3 I10 A10 v10_4) (q86_X11_offerAll_0_tFx n I A J t x1 x2 x3 I10 A10 v10_4))
def qIw10_X11_offerAll_0_tFx (n : Nat) (I : Nat → Nat → Int32) (A : Nat → Nat → Int32) (J : Nat → Nat → Int64) (t : Bool × Bool) (x1 : Int32) (x2 : Int32) (x3 : Int32) : Nat → Nat → Int32 := (lp_X11_offerAll_0_tFx_10 n I A J t x1 x2 x3 n (pI_X3_renew_46 n I A J (false, t.2) ) (pA_X3_renew_46 n I A J (false, t.2) ) 0).1
def qAw10_X11_offerAll_0_tFx (n : Nat) (I : Nat → Nat → Int32) (A : Nat → Nat → Int32) (J : Nat → Nat → Int64) (t : Bool × Bool) (x1 : Int32) (x2 : Int32) (x3 : Int32) : Nat → Nat → Int32 := (lp_X11_offerAll_0_tFx_10 n I A J t x1 x2 x3 n (pI_X3_renew_46 n I A J (false, t.2) ) (pA_X3_renew_46 n I A J (false, t.2) ) 0).2.1
def q4w10_X11_offerAll_0_tFx (n : Nat) (I : Nat → Nat → Int32) (A : Nat → Nat → Int32) (J : Nat → Nat → Int64) (t : Bool × Bool) (x1 : Int32) (x2 : Int32) (x3 : Int32) : Int32 := (lp_X11_offerAll_0_tFx_10 n I A J t x1 x2 x3 n (pI_X3_renew_46 n I A J (false, t.2) ) (pA_X3_renew_46 n I A J (false, t.2) ) 0).2.2
def pb_X11_offerAll_0_tFx (n : Nat) (I : Nat → Nat → Int32) (A : Nat → Nat → Int32) (J : Nat → Nat → Int64) (t : Bool × Bool) (x1 : Int32) (x2 : Int32) (x3 : Int32) : Prop := pb_X3_renew_46 n I A J (false, t.2)  ∧ lb_X11_offerAll_0_tFx_10 n I A J t x1 x2 x3 n (pI_X3_renew_46 n I A J (false, t.2) ) (pA_X3_renew_46 n I A J (false, t.2) ) 0
def pI_X11_offerAll_0_tFx (n : Nat) (I : Nat → Nat → Int32) (A : Nat → Nat → Int32) (J : Nat → Nat → Int64) (t : Bool × Bool) (x1 : Int32) (x2 : Int32) (x3 : Int32) : Nat → Nat → Int32 := (qIw10_X11_offerAll_0_tFx n I A J t x1 x2 x3)
def pA_X11_offerAll_0_tFx (n : Nat) (I : Nat → Nat → Int32) (A : Nat → Nat → Int32) (J : Nat → Nat → Int64) (t : Bool × Bool) (x1 : Int32) (x2 : Int32) (x3 : Int32) : Nat → Nat → Int32 := (qAw10_X11_offerAll_0_tFx n I A J t x1 x2 x3)
set_option maxRecDepth 100000 in
set_option maxHeartbeats 4000000 in
theorem lt_X11_offerAll_0_tFx_25 (g : cw_G) (n : Nat) (I : Nat → Nat → Int32) (A : Nat → Nat → Int32) (J : Nat → Nat → Int64) (t : Bool × Bool) (x1 : Int32) (x2 : Int32) (x3 : Int32) (I10 : Nat → Nat → Int32) (A10 : Nat → Nat → Int32) (v10_4 : Int32) {Q : Option Value → cw_H → Prop} : ∀ (f : Nat) (I25 : Nat → Nat → Int32) (A25 : Nat → Nat → Int32) (v25_5 : Int32) (w0 : Nat → Nat → Int32) (w1 : Nat → Nat → Int32) (w2 : Int32), lb_X11_offerAll_0_tFx_25 n I A J t x1 x2 x3 I10 A10 v10_4 f I25 A25 v25_5 → (lp_X11_offerAll_0_tFx_25 n I A J t x1 x2 x3 I10 A10 v10_4 f I25 A25 v25_5).1 = w0 → (lp_X11_offerAll_0_tFx_25 n I A J t x1 x2 x3 I10 A10 v10_4 f I25 A25 v25_5).2.1 = w1 → (lp_X11_offerAll_0_tFx_25 n I A J t x1 x2 x3 I10 A10 v10_4 f I25 A25 v25_5).2.2 = w2 → Ev g mX11_offerAll 0 0 86 [some (.ref (cw_z g + 0)), some (.int x1), some (.int x2), some (.int x3), some (.int v10_4), some (.int w2)] [] (hp g w0 w1 J (false, t.2)) Q → Ev g mX11_offerAll 0 0 25 [some (.ref (cw_z g + 0)), some (.int x1), some (.int x2), some (.int x3), some (.int v10_4), some (.int v25_5)] [] (hp g I25 A25 J (false, t.2)) Q := by
  intro f
  induction f with
  | zero =>
    intro I25 A25 v25_5 w0 w1 w2 hb
    exact hb.elim
  | succ f ih =>
    intro I25 A25 v25_5 w0 w1 w2 hb h0 h1 h2 hE
    rw [lb_X11_offerAll_0_tFx_25] at hb
    rw [lp_X11_offerAll_0_tFx_25] at h0 h1 h2
    refine ev_iload (pc := 25) dX11_offerAll_25 rfl ?_
    refine ev_aload_n (pc := 27) dX11_offerAll_27 rfl ?_
    refine tv_getr (pc := 28) (d := 9) dX11_offerAll_28 fl_X11_24 (by decide) rfl rfl ?_
    refine tv_geti (pc := 31) dX11_offerAll_31 fl_X11_224 (by decide) rfl rfl ?_
    have hF_34 := hb
    refine ev_icmp_ge (pc := 34) (tgt := 86) dX11_offerAll_34 (by decide) (fun c_34 => ?_) (fun c_34 => ?_)
    · try simp only [if_pos c_34] at h0
      try simp only [if_pos c_34] at h1
      try simp only [if_pos c_34] at h2
      subst h0
      subst h1
      subst h2
      exact ev_loc hE cw_le0
    · have hb := hF_34 c_34
      try simp only [if_neg c_34] at h0
      try simp only [if_neg c_34] at h1
      try simp only [if_neg c_34] at h2
      refine ev_aload_n (pc := 37) dX11_offerAll_37 rfl ?_
      refine tv_getr (pc := 38) (d := 12) dX11_offerAll_38 fl_X11_31 (by decide) rfl rfl ?_
      refine ev_iload (pc := 41) dX11_offerAll_41 rfl ?_
      refine ev_iload_n (pc := 43) dX11_offerAll_43 rfl ?_
      refine ev_Vi (pc := 44) dX11_offerAll_44 lk_X11_308 cd_X6_isOn ar_X6_isOn ⟨by decide, rfl, rfl⟩ (cv_X6_isOn_12 g n I25 A25 J (false, t.2) v10_4 x2 hb.1) (show 12 < 120 by decide) rfl rfl rfl rfl (Nat.le_of_ble_eq_true rfl) ⟨by decide, by decide⟩ ?_
      replace hb := hb.2
      have hF_47 := hb
      refine ev_if_eq (pc := 47) (tgt := 86) dX11_offerAll_47 (by decide) (fun c_47 => ?_) (fun c_47 => ?_)
      · try simp only [if_pos c_47] at h0
        try simp only [if_pos c_47] at h1
        try simp only [if_pos c_47] at h2
        subst h0
        subst h1
        subst h2
        exact ev_loc hE cw_le0
      · have hb := hF_47 c_47
        try simp only [if_neg c_47] at h0
        try simp only [if_neg c_47] at h1
        try simp only [if_neg c_47] at h2
        refine ev_aload_n (pc := 50) dX11_offerAll_50 rfl ?_
        refine ev_iload (pc := 51) dX11_offerAll_51 rfl ?_
        refine ev_aload_n (pc := 53) dX11_offerAll_53 rfl ?_
        refine tv_getr (pc := 54) (d := 12) dX11_offerAll_54 fl_X11_31 (by decide) rfl rfl ?_
        refine ev_iload (pc := 57) dX11_offerAll_57 rfl ?_
        refine ev_Vi (pc := 59) dX11_offerAll_59 lk_X11_311 cd_X6_landOf ar_X6_landOf ⟨by decide, rfl, rfl⟩ (cv_X6_landOf_12 g n I25 A25 J (false, t.2) v10_4 hb.1) (show 12 < 120 by decide) rfl rfl rfl rfl (Nat.le_of_ble_eq_true rfl) ⟨by decide, by decide⟩ ?_
        replace hb := hb.2
        refine ev_iload_n (pc := 62) dX11_offerAll_62 rfl ?_
        refine ev_Vi (pc := 63) dX11_offerAll_63 lk_X11_312 cd_X11_isTurned ar_X11_isTurned ⟨by decide, rfl, rfl⟩ (cv_X11_isTurned_0 g n I25 A25 J (false, t.2) v25_5 (px_X6_landOf_12 n I25 A25 J (false, t.2) v10_4) x2 hb.1) (show 0 < 120 by decide) rfl rfl rfl rfl (Nat.le_of_ble_eq_true rfl) ⟨by decide, by decide⟩ ?_
        replace hb := hb.2
        obtain ⟨hF_66, hb⟩ := hb
        refine ev_cut (pj := 80) (Lj := [some (.ref (cw_z g + 0)), some (.int x1), some (.int x2), some (.int x3), some (.int v10_4), some (.int v25_5)]) (stj := []) (σj := hp g (qIm66_X11_offerAll_0_tFx n I A J t x1 x2 x3 I10 A10 v10_4 I25 A25 v25_5) (qAm66_X11_offerAll_0_tFx n I A J t x1 x2 x3 I10 A10 v10_4 I25 A25 v25_5) J (false, t.2)) ?_ (fun hJ_66 => ?_)
        rotate_left
        · refine ev_if_eq (pc := 66) (tgt := 80) dX11_offerAll_66 (by decide) (fun c_66 => ?_) (fun c_66 => ?_)
          · simp only [qIm66_X11_offerAll_0_tFx, qAm66_X11_offerAll_0_tFx, if_pos c_66] at hJ_66
            exact ev_loc hJ_66 cw_le0
          · have hb := hF_66 c_66
            refine ev_aload_n (pc := 69) dX11_offerAll_69 rfl ?_
            refine ev_iload (pc := 70) dX11_offerAll_70 rfl ?_
            refine ev_iload (pc := 72) dX11_offerAll_72 rfl ?_
            refine ev_iload_n (pc := 74) dX11_offerAll_74 rfl ?_
            refine ev_iload_n (pc := 75) dX11_offerAll_75 rfl ?_
            refine ev_iload_n (pc := 76) dX11_offerAll_76 rfl ?_
            refine ev_Vv (pc := 77) dX11_offerAll_77 lk_X11_315 cd_X11_offer ar_X11_offer ⟨by decide, rfl, rfl⟩ (cv_X11_offer_0_tFx g n I25 A25 J (false, t.2) v10_4 v25_5 x1 x2 x3 hb) (show 0 < 120 by decide) rfl rfl rfl rfl (Nat.le_of_ble_eq_true rfl) ⟨by decide, by decide⟩ ?_
            simp only [qIm66_X11_offerAll_0_tFx, qAm66_X11_offerAll_0_tFx, if_neg c_66] at hJ_66
            exact ev_loc hJ_66 cw_le0
        refine ev_iinc_5 (pc := 80) (v := (q80_X11_offerAll_0_tFx n I A J t x1 x2 x3 I10 A10 v10_4 I25 A25 v25_5)) dX11_offerAll_80 (by decide) rfl rfl ?_
        refine ev_goto (pc := 83) (tgt := 25) dX11_offerAll_83 (by decide) ?_
        exact ev_loc (ih (qIm66_X11_offerAll_0_tFx n I A J t x1 x2 x3 I10 A10 v10_4 I25 A25 v25_5) (qAm66_X11_offerAll_0_tFx n I A J t x1 x2 x3 I10 A10 v10_4 I25 A25 v25_5) (q80_X11_offerAll_0_tFx n I A J t x1 x2 x3 I10 A10 v10_4 I25 A25 v25_5) w0 w1 w2 hb h0 h1 h2 hE) cw_le0

set_option maxRecDepth 100000 in
set_option maxHeartbeats 4000000 in
theorem lt_X11_offerAll_0_tFx_10 (g : cw_G) (n : Nat) (I : Nat → Nat → Int32) (A : Nat → Nat → Int32) (J : Nat → Nat → Int64) (t : Bool × Bool) (x1 : Int32) (x2 : Int32) (x3 : Int32) {Q : Option Value → cw_H → Prop} : ∀ (f : Nat) (I10 : Nat → Nat → Int32) (A10 : Nat → Nat → Int32) (v10_4 : Int32) (w0 : Nat → Nat → Int32) (w1 : Nat → Nat → Int32) (w2 : Int32), lb_X11_offerAll_0_tFx_10 n I A J t x1 x2 x3 f I10 A10 v10_4 → (lp_X11_offerAll_0_tFx_10 n I A J t x1 x2 x3 f I10 A10 v10_4).1 = w0 → (lp_X11_offerAll_0_tFx_10 n I A J t x1 x2 x3 f I10 A10 v10_4).2.1 = w1 → (lp_X11_offerAll_0_tFx_10 n I A J t x1 x2 x3 f I10 A10 v10_4).2.2 = w2 → Ev g mX11_offerAll 0 0 92 [some (.ref (cw_z g + 0)), some (.int x1), some (.int x2), some (.int x3), some (.int w2), none] [] (hp g w0 w1 J (false, t.2)) Q → Ev g mX11_offerAll 0 0 10 [some (.ref (cw_z g + 0)), some (.int x1), some (.int x2), some (.int x3), some (.int v10_4), none] [] (hp g I10 A10 J (false, t.2)) Q := by
  intro f
  induction f with
  | zero =>
    intro I10 A10 v10_4 w0 w1 w2 hb
    exact hb.elim
  | succ f ih =>
    intro I10 A10 v10_4 w0 w1 w2 hb h0 h1 h2 hE
    rw [lb_X11_offerAll_0_tFx_10] at hb
    rw [lp_X11_offerAll_0_tFx_10] at h0 h1 h2
    refine ev_iload (pc := 10) dX11_offerAll_10 rfl ?_
    refine ev_aload_n (pc := 12) dX11_offerAll_12 rfl ?_
    refine tv_getr (pc := 13) (d := 12) dX11_offerAll_13 fl_X11_31 (by decide) rfl rfl ?_
    refine tv_geti (pc := 16) dX11_offerAll_16 fl_X11_216 (by decide) rfl rfl ?_
    have hF_19 := hb
    refine ev_icmp_ge (pc := 19) (tgt := 92) dX11_offerAll_19 (by decide) (fun c_19 => ?_) (fun c_19 => ?_)
    · try simp only [if_pos c_19] at h0
      try simp only [if_pos c_19] at h1
      try simp only [if_pos c_19] at h2
      subst h0
      subst h1
      subst h2
      exact ev_loc hE cw_le0
    · have hb := hF_19 c_19
      try simp only [if_neg c_19] at h0
      try simp only [if_neg c_19] at h1
      try simp only [if_neg c_19] at h2
      refine ev_iconst (pc := 22) (v := 0) dX11_offerAll_22 (by decide) ?_
      refine ev_istore_5 (pc := 23) dX11_offerAll_23 (by decide) rfl ?_
      refine lt_X11_offerAll_0_tFx_25 g n I A J t x1 x2 x3 I10 A10 v10_4 n I10 A10 0 (qIw25_X11_offerAll_0_tFx n I A J t x1 x2 x3 I10 A10 v10_4) (qAw25_X11_offerAll_0_tFx n I A J t x1 x2 x3 I10 A10 v10_4) (q5w25_X11_offerAll_0_tFx n I A J t x1 x2 x3 I10 A10 v10_4) hb.1 rfl rfl rfl ?_
      replace hb := hb.2
      refine ev_iinc_4 (pc := 86) (v := (q86_X11_offerAll_0_tFx n I A J t x1 x2 x3 I10 A10 v10_4)) dX11_offerAll_86 (by decide) rfl rfl ?_
      refine ev_goto (pc := 89) (tgt := 10) dX11_offerAll_89 (by decide) ?_
      exact ev_loc (ih (qIw25_X11_offerAll_0_tFx n I A J t x1 x2 x3 I10 A10 v10_4) (qAw25_X11_offerAll_0_tFx n I A J t x1 x2 x3 I10 A10 v10_4) (q86_X11_offerAll_0_tFx n I A J t x1 x2 x3 I10 A10 v10_4) w0 w1 w2 hb h0 h1 h2 hE) (cw_leS (cw_leS (cw_leS (cw_leS (cw_leS (cw_leN cw_le0))))))

set_option maxRecDepth 100000 in
set_option maxHeartbeats 4000000 in
theorem cv_X11_offerAll_0_tFx (g : cw_G) (n : Nat) (I : Nat → Nat → Int32) (A : Nat → Nat → Int32) (J : Nat → Nat → Int64) (t : Bool × Bool) (x1 : Int32) (x2 : Int32) (x3 : Int32) (hb : pb_X11_offerAll_0_tFx n I A J t x1 x2 x3) : Cd g mX11_offerAll [(.ref (cw_z g + 0)), (.int x1), (.int x2), (.int x3)] (hp g I A J (false, t.2)) none (hp g (pI_X11_offerAll_0_tFx n I A J t x1 x2 x3) (pA_X11_offerAll_0_tFx n I A J t x1 x2 x3) J (false, t.2)) := by
  unfold pb_X11_offerAll_0_tFx at hb
  unfold pI_X11_offerAll_0_tFx pA_X11_offerAll_0_tFx
  refine Cd.of rfl (Nat.le_of_ble_eq_true rfl) (ev_gen (fun Q hQ => ?_))
  refine ev_aload_n (pc := 0) dX11_offerAll_0 rfl ?_
  refine tv_getr (pc := 1) (d := 46) dX11_offerAll_1 fl_X11_74 (by decide) rfl rfl ?_
  refine ev_Vv (pc := 4) dX11_offerAll_4 lk_X11_307 cd_X3_renew ar_X3_renew ⟨by decide, rfl, rfl⟩ (cv_X3_renew_46 g n I A J (false, t.2)  hb.1) (show 46 < 120 by decide) rfl rfl rfl rfl (Nat.le_of_ble_eq_true rfl) ⟨by decide, by decide⟩ ?_
  replace hb := hb.2
  refine ev_iconst (pc := 7) (v := 0) dX11_offerAll_7 (by decide) ?_
  refine ev_istore_4 (pc := 8) dX11_offerAll_8 (by decide) rfl ?_
  refine lt_X11_offerAll_0_tFx_10 g n I A J t x1 x2 x3 n (pI_X3_renew_46 n I A J (false, t.2) ) (pA_X3_renew_46 n I A J (false, t.2) ) 0 (qIw10_X11_offerAll_0_tFx n I A J t x1 x2 x3) (qAw10_X11_offerAll_0_tFx n I A J t x1 x2 x3) (q4w10_X11_offerAll_0_tFx n I A J t x1 x2 x3) hb rfl rfl rfl ?_
  exact ev_vret (pc := 92) dX11_offerAll_92 rfl (by decide) (by decide) (hQ _ _ ⟨rfl, rfl⟩)

def q90_X11_schedule_0_tFx (n : Nat) (I : Nat → Nat → Int32) (A : Nat → Nat → Int32) (J : Nat → Nat → Int64) (t : Bool × Bool) (x1 : Int32) (x2 : Int32) (I44 : Nat → Nat → Int32) (A44 : Nat → Nat → Int32) (v44_3 : Int32) (v44_4 : Int32) : Int32 := (v44_3 + (px_X5_listenersIn_53 n (pI_X11_offerAll_0_tFx n I44 A44 J (false, t.2) x1 v44_4 x2) (pA_X11_settle_0 n (pI_X11_offerAll_0_tFx n I44 A44 J (false, t.2) x1 v44_4 x2) (pA_X3_solve_46 n (pI_X11_offerAll_0_tFx n I44 A44 J (false, t.2) x1 v44_4 x2) (pA_X11_offerAll_0_tFx n I44 A44 J (false, t.2) x1 v44_4 x2) J (false, t.2) ((pI_X11_offerAll_0_tFx n I44 A44 J (false, t.2) x1 v44_4 x2) 9 2)) J (false, t.2) v44_4) J (false, t.2) v44_4))
def q91_X11_schedule_0_tFx (n : Nat) (I : Nat → Nat → Int32) (A : Nat → Nat → Int32) (J : Nat → Nat → Int64) (t : Bool × Bool) (x1 : Int32) (x2 : Int32) (I44 : Nat → Nat → Int32) (A44 : Nat → Nat → Int32) (v44_3 : Int32) (v44_4 : Int32) : Int32 := v44_4 + 1
def lp_X11_schedule_0_tFx_44 (n : Nat) (I : Nat → Nat → Int32) (A : Nat → Nat → Int32) (J : Nat → Nat → Int64) (t : Bool × Bool) (x1 : Int32) (x2 : Int32) : Nat → (Nat → Nat → Int32) → (Nat → Nat → Int32) → (Int32) → (Int32) → (Nat → Nat → Int32) × (Nat → Nat → Int32) × Int32 × Int32
  | 0, I44, A44, v44_3, v44_4 => (I44, A44, v44_3, v44_4)
  | f + 1, I44, A44, v44_3, v44_4 => if 24 ≤ v44_4 then (I44, A44, v44_3, v44_4) else lp_X11_schedule_0_tFx_44 n I A J t x1 x2 f (pI_X11_offerAll_0_tFx n I44 A44 J (false, t.2) x1 v44_4 x2) (pA_X11_settle_0 n (pI_X11_offerAll_0_tFx n I44 A44 J (false, t.2) x1 v44_4 x2) (pA_X3_solve_46 n (pI_X11_offerAll_0_tFx n I44 A44 J (false, t.2) x1 v44_4 x2) (pA_X11_offerAll_0_tFx n I44 A44 J (false, t.2) x1 v44_4 x2) J (false, t.2) ((pI_X11_offerAll_0_tFx n I44 A44 J (false, t.2) x1 v44_4 x2) 9 2)) J (false, t.2) v44_4) (q90_X11_schedule_0_tFx n I A J t x1 x2 I44 A44 v44_3 v44_4) (q91_X11_schedule_0_tFx n I A J t x1 x2 I44 A44 v44_3 v44_4)
def lb_X11_schedule_0_tFx_44 (n : Nat) (I : Nat → Nat → Int32) (A : Nat → Nat → Int32) (J : Nat → Nat → Int64) (t : Bool × Bool) (x1 : Int32) (x2 : Int32) : Nat → (Nat → Nat → Int32) → (Nat → Nat → Int32) → (Int32) → (Int32) → Prop
  | 0, _, _, _, _ => False
  | f + 1, I44, A44, v44_3, v44_4 => (¬ 24 ≤ v44_4 → pb_X11_offerAll_0_tFx n I44 A44 J (false, t.2) x1 v44_4 x2 ∧ pb_X3_solve_46 n (pI_X11_offerAll_0_tFx n I44 A44 J (false, t.2) x1 v44_4 x2) (pA_X11_offerAll_0_tFx n I44 A44 J (false, t.2) x1 v44_4 x2) J (false, t.2) ((pI_X11_offerAll_0_tFx n I44 A44 J (false, t.2) x1 v44_4 x2) 9 2) ∧ pb_X11_settle_0 n (pI_X11_offerAll_0_tFx n I44 A44 J (false, t.2) x1 v44_4 x2) (pA_X3_solve_46 n (pI_X11_offerAll_0_tFx n I44 A44 J (false, t.2) x1 v44_4 x2) (pA_X11_offerAll_0_tFx n I44 A44 J (false, t.2) x1 v44_4 x2) J (false, t.2) ((pI_X11_offerAll_0_tFx n I44 A44 J (false, t.2) x1 v44_4 x2) 9 2)) J (false, t.2) v44_4 ∧ pb_X5_listenersIn_53 n (pI_X11_offerAll_0_tFx n I44 A44 J (false, t.2) x1 v44_4 x2) (pA_X11_settle_0 n (pI_X11_offerAll_0_tFx n I44 A44 J (false, t.2) x1 v44_4 x2) (pA_X3_solve_46 n (pI_X11_offerAll_0_tFx n I44 A44 J (false, t.2) x1 v44_4 x2) (pA_X11_offerAll_0_tFx n I44 A44 J (false, t.2) x1 v44_4 x2) J (false, t.2) ((pI_X11_offerAll_0_tFx n I44 A44 J (false, t.2) x1 v44_4 x2) 9 2)) J (false, t.2) v44_4) J (false, t.2) v44_4 ∧ lb_X11_schedule_0_tFx_44 n I A J t x1 x2 f (pI_X11_offerAll_0_tFx n I44 A44 J (false, t.2) x1 v44_4 x2) (pA_X11_settle_0 n (pI_X11_offerAll_0_tFx n I44 A44 J (false, t.2) x1 v44_4 x2) (pA_X3_solve_46 n (pI_X11_offerAll_0_tFx n I44 A44 J (false, t.2) x1 v44_4 x2) (pA_X11_offerAll_0_tFx n I44 A44 J (false, t.2) x1 v44_4 x2) J (false, t.2) ((pI_X11_offerAll_0_tFx n I44 A44 J (false, t.2) x1 v44_4 x2) 9 2)) J (false, t.2) v44_4) (q90_X11_schedule_0_tFx n I A J t x1 x2 I44 A44 v44_3 v44_4) (q91_X11_schedule_0_tFx n I A J t x1 x2 I44 A44 v44_3 v44_4))
def qIw44_X11_schedule_0_tFx (n : Nat) (I : Nat → Nat → Int32) (A : Nat → Nat → Int32) (J : Nat → Nat → Int64) (t : Bool × Bool) (x1 : Int32) (x2 : Int32) : Nat → Nat → Int32 := (lp_X11_schedule_0_tFx_44 n I A J t x1 x2 n (pI_X5_renew_53 n I (pA_X11_learn_0 n I A J (false, t.2) x2) J (false, t.2) (I 12 3)) (pA_X5_renew_53 n I (pA_X11_learn_0 n I A J (false, t.2) x2) J (false, t.2) (I 12 3)) 0 0).1
def qAw44_X11_schedule_0_tFx (n : Nat) (I : Nat → Nat → Int32) (A : Nat → Nat → Int32) (J : Nat → Nat → Int64) (t : Bool × Bool) (x1 : Int32) (x2 : Int32) : Nat → Nat → Int32 := (lp_X11_schedule_0_tFx_44 n I A J t x1 x2 n (pI_X5_renew_53 n I (pA_X11_learn_0 n I A J (false, t.2) x2) J (false, t.2) (I 12 3)) (pA_X5_renew_53 n I (pA_X11_learn_0 n I A J (false, t.2) x2) J (false, t.2) (I 12 3)) 0 0).2.1
def q3w44_X11_schedule_0_tFx (n : Nat) (I : Nat → Nat → Int32) (A : Nat → Nat → Int32) (J : Nat → Nat → Int64) (t : Bool × Bool) (x1 : Int32) (x2 : Int32) : Int32 := (lp_X11_schedule_0_tFx_44 n I A J t x1 x2 n (pI_X5_renew_53 n I (pA_X11_learn_0 n I A J (false, t.2) x2) J (false, t.2) (I 12 3)) (pA_X5_renew_53 n I (pA_X11_learn_0 n I A J (false, t.2) x2) J (false, t.2) (I 12 3)) 0 0).2.2.1
def q4w44_X11_schedule_0_tFx (n : Nat) (I : Nat → Nat → Int32) (A : Nat → Nat → Int32) (J : Nat → Nat → Int64) (t : Bool × Bool) (x1 : Int32) (x2 : Int32) : Int32 := (lp_X11_schedule_0_tFx_44 n I A J t x1 x2 n (pI_X5_renew_53 n I (pA_X11_learn_0 n I A J (false, t.2) x2) J (false, t.2) (I 12 3)) (pA_X5_renew_53 n I (pA_X11_learn_0 n I A J (false, t.2) x2) J (false, t.2) (I 12 3)) 0 0).2.2.2
def pb_X11_schedule_0_tFx (n : Nat) (I : Nat → Nat → Int32) (A : Nat → Nat → Int32) (J : Nat → Nat → Int64) (t : Bool × Bool) (x1 : Int32) (x2 : Int32) : Prop := (¬ (px_X11_isDay n I A J (false, t.2) x1) = 0 → (¬ (px_X1_canKnow_19 n I A J (false, t.2) x2) = 0 → pb_X11_learn_0 n I A J (false, t.2) x2 ∧ pb_X5_renew_53 n I (pA_X11_learn_0 n I A J (false, t.2) x2) J (false, t.2) (I 12 3) ∧ lb_X11_schedule_0_tFx_44 n I A J t x1 x2 n (pI_X5_renew_53 n I (pA_X11_learn_0 n I A J (false, t.2) x2) J (false, t.2) (I 12 3)) (pA_X5_renew_53 n I (pA_X11_learn_0 n I A J (false, t.2) x2) J (false, t.2) (I 12 3)) 0 0))
def px_X11_schedule_0_tFx (n : Nat) (I : Nat → Nat → Int32) (A : Nat → Nat → Int32) (J : Nat → Nat → Int64) (t : Bool × Bool) (x1 : Int32) (x2 : Int32) : Int32 := (if (px_X11_isDay n I A J (false, t.2) x1) = 0 then (-1) else (if (px_X1_canKnow_19 n I A J (false, t.2) x2) = 0 then (-1) else (q3w44_X11_schedule_0_tFx n I A J t x1 x2)))
def pI_X11_schedule_0_tFx (n : Nat) (I : Nat → Nat → Int32) (A : Nat → Nat → Int32) (J : Nat → Nat → Int64) (t : Bool × Bool) (x1 : Int32) (x2 : Int32) : Nat → Nat → Int32 := (if (px_X11_isDay n I A J (false, t.2) x1) = 0 then I else (if (px_X1_canKnow_19 n I A J (false, t.2) x2) = 0 then I else (qIw44_X11_schedule_0_tFx n I A J t x1 x2)))
def pA_X11_schedule_0_tFx (n : Nat) (I : Nat → Nat → Int32) (A : Nat → Nat → Int32) (J : Nat → Nat → Int64) (t : Bool × Bool) (x1 : Int32) (x2 : Int32) : Nat → Nat → Int32 := (if (px_X11_isDay n I A J (false, t.2) x1) = 0 then A else (if (px_X1_canKnow_19 n I A J (false, t.2) x2) = 0 then A else (qAw44_X11_schedule_0_tFx n I A J t x1 x2)))
set_option maxRecDepth 100000 in
set_option maxHeartbeats 4000000 in
theorem lt_X11_schedule_0_tFx_44 (g : cw_G) (n : Nat) (I : Nat → Nat → Int32) (A : Nat → Nat → Int32) (J : Nat → Nat → Int64) (t : Bool × Bool) (x1 : Int32) (x2 : Int32) {Q : Option Value → cw_H → Prop} : ∀ (f : Nat) (I44 : Nat → Nat → Int32) (A44 : Nat → Nat → Int32) (v44_3 : Int32) (v44_4 : Int32) (w0 : Nat → Nat → Int32) (w1 : Nat → Nat → Int32) (w2 : Int32) (w3 : Int32), lb_X11_schedule_0_tFx_44 n I A J t x1 x2 f I44 A44 v44_3 v44_4 → (lp_X11_schedule_0_tFx_44 n I A J t x1 x2 f I44 A44 v44_3 v44_4).1 = w0 → (lp_X11_schedule_0_tFx_44 n I A J t x1 x2 f I44 A44 v44_3 v44_4).2.1 = w1 → (lp_X11_schedule_0_tFx_44 n I A J t x1 x2 f I44 A44 v44_3 v44_4).2.2.1 = w2 → (lp_X11_schedule_0_tFx_44 n I A J t x1 x2 f I44 A44 v44_3 v44_4).2.2.2 = w3 → Ev g mX11_schedule 0 0 97 [some (.ref (cw_z g + 0)), some (.int x1), some (.int x2), some (.int w2), some (.int w3)] [] (hp g w0 w1 J (false, t.2)) Q → Ev g mX11_schedule 0 0 44 [some (.ref (cw_z g + 0)), some (.int x1), some (.int x2), some (.int v44_3), some (.int v44_4)] [] (hp g I44 A44 J (false, t.2)) Q := by
  intro f
  induction f with
  | zero =>
    intro I44 A44 v44_3 v44_4 w0 w1 w2 w3 hb
    exact hb.elim
  | succ f ih =>
    intro I44 A44 v44_3 v44_4 w0 w1 w2 w3 hb h0 h1 h2 h3 hE
    rw [lb_X11_schedule_0_tFx_44] at hb
    rw [lp_X11_schedule_0_tFx_44] at h0 h1 h2 h3
    refine ev_iload (pc := 44) dX11_schedule_44 rfl ?_
    refine ev_bipush (pc := 46) (v := 24) dX11_schedule_46 (by decide) ?_
    have hF_48 := hb
    refine ev_icmp_ge (pc := 48) (tgt := 97) dX11_schedule_48 (by decide) (fun c_48 => ?_) (fun c_48 => ?_)
    · try simp only [if_pos c_48] at h0
      try simp only [if_pos c_48] at h1
      try simp only [if_pos c_48] at h2
      try simp only [if_pos c_48] at h3
      subst h0
      subst h1
      subst h2
      subst h3
      exact ev_loc hE cw_le0
    · have hb := hF_48 c_48
      try simp only [if_neg c_48] at h0
      try simp only [if_neg c_48] at h1
      try simp only [if_neg c_48] at h2
      try simp only [if_neg c_48] at h3
      refine ev_aload_n (pc := 51) dX11_schedule_51 rfl ?_
      refine ev_iload_n (pc := 52) dX11_schedule_52 rfl ?_
      refine ev_iload (pc := 53) dX11_schedule_53 rfl ?_
      refine ev_iload_n (pc := 55) dX11_schedule_55 rfl ?_
      refine ev_Vv (pc := 56) dX11_schedule_56 lk_X11_221 cd_X11_offerAll ar_X11_offerAll ⟨by decide, rfl, rfl⟩ (cv_X11_offerAll_0_tFx g n I44 A44 J (false, t.2) x1 v44_4 x2 hb.1) (show 0 < 120 by decide) rfl rfl rfl rfl (Nat.le_of_ble_eq_true rfl) ⟨by decide, by decide⟩ ?_
      replace hb := hb.2
      refine ev_aload_n (pc := 59) dX11_schedule_59 rfl ?_
      refine tv_getr (pc := 60) (d := 46) dX11_schedule_60 fl_X11_74 (by decide) rfl rfl ?_
      refine ev_aload_n (pc := 63) dX11_schedule_63 rfl ?_
      refine tv_getr (pc := 64) (d := 9) dX11_schedule_64 fl_X11_24 (by decide) rfl rfl ?_
      refine tv_geti (pc := 67) dX11_schedule_67 fl_X11_224 (by decide) rfl rfl ?_
      refine ev_Vv (pc := 70) dX11_schedule_70 lk_X11_225 cd_X3_solve ar_X3_solve ⟨by decide, rfl, rfl⟩ (cv_X3_solve_46 g n (pI_X11_offerAll_0_tFx n I44 A44 J (false, t.2) x1 v44_4 x2) (pA_X11_offerAll_0_tFx n I44 A44 J (false, t.2) x1 v44_4 x2) J (false, t.2) ((pI_X11_offerAll_0_tFx n I44 A44 J (false, t.2) x1 v44_4 x2) 9 2) hb.1) (show 46 < 120 by decide) rfl rfl rfl rfl (Nat.le_of_ble_eq_true rfl) ⟨by decide, by decide⟩ ?_
      replace hb := hb.2
      refine ev_aload_n (pc := 73) dX11_schedule_73 rfl ?_
      refine ev_iload (pc := 74) dX11_schedule_74 rfl ?_
      refine ev_Vv (pc := 76) dX11_schedule_76 lk_X11_228 cd_X11_settle ar_X11_settle ⟨by decide, rfl, rfl⟩ (cv_X11_settle_0 g n (pI_X11_offerAll_0_tFx n I44 A44 J (false, t.2) x1 v44_4 x2) (pA_X3_solve_46 n (pI_X11_offerAll_0_tFx n I44 A44 J (false, t.2) x1 v44_4 x2) (pA_X11_offerAll_0_tFx n I44 A44 J (false, t.2) x1 v44_4 x2) J (false, t.2) ((pI_X11_offerAll_0_tFx n I44 A44 J (false, t.2) x1 v44_4 x2) 9 2)) J (false, t.2) v44_4 hb.1) (show 0 < 120 by decide) rfl rfl rfl rfl (Nat.le_of_ble_eq_true rfl) ⟨by decide, by decide⟩ ?_
      replace hb := hb.2
      refine ev_iload_n (pc := 79) dX11_schedule_79 rfl ?_
      refine ev_aload_n (pc := 80) dX11_schedule_80 rfl ?_
      refine tv_getr (pc := 81) (d := 53) dX11_schedule_81 fl_X11_81 (by decide) rfl rfl ?_
      refine ev_iload (pc := 84) dX11_schedule_84 rfl ?_
      refine ev_Vi (pc := 86) dX11_schedule_86 lk_X11_231 cd_X5_listenersIn ar_X5_listenersIn ⟨by decide, rfl, rfl⟩ (cv_X5_listenersIn_53 g n (pI_X11_offerAll_0_tFx n I44 A44 J (false, t.2) x1 v44_4 x2) (pA_X11_settle_0 n (pI_X11_offerAll_0_tFx n I44 A44 J (false, t.2) x1 v44_4 x2) (pA_X3_solve_46 n (pI_X11_offerAll_0_tFx n I44 A44 J (false, t.2) x1 v44_4 x2) (pA_X11_offerAll_0_tFx n I44 A44 J (false, t.2) x1 v44_4 x2) J (false, t.2) ((pI_X11_offerAll_0_tFx n I44 A44 J (false, t.2) x1 v44_4 x2) 9 2)) J (false, t.2) v44_4) J (false, t.2) v44_4 hb.1) (show 53 < 120 by decide) rfl rfl rfl rfl (Nat.le_of_ble_eq_true rfl) ⟨by decide, by decide⟩ ?_
      replace hb := hb.2
      refine ev_iadd (pc := 89) dX11_schedule_89 ?_
      refine ev_is (y := (q90_X11_schedule_0_tFx n I A J t x1 x2 I44 A44 v44_3 v44_4)) rfl ?_
      refine ev_istore_3 (pc := 90) dX11_schedule_90 (by decide) rfl ?_
      refine ev_iinc_4 (pc := 91) (v := (q91_X11_schedule_0_tFx n I A J t x1 x2 I44 A44 v44_3 v44_4)) dX11_schedule_91 (by decide) rfl rfl ?_
      refine ev_goto (pc := 94) (tgt := 44) dX11_schedule_94 (by decide) ?_
      exact ev_loc (ih (pI_X11_offerAll_0_tFx n I44 A44 J (false, t.2) x1 v44_4 x2) (pA_X11_settle_0 n (pI_X11_offerAll_0_tFx n I44 A44 J (false, t.2) x1 v44_4 x2) (pA_X3_solve_46 n (pI_X11_offerAll_0_tFx n I44 A44 J (false, t.2) x1 v44_4 x2) (pA_X11_offerAll_0_tFx n I44 A44 J (false, t.2) x1 v44_4 x2) J (false, t.2) ((pI_X11_offerAll_0_tFx n I44 A44 J (false, t.2) x1 v44_4 x2) 9 2)) J (false, t.2) v44_4) (q90_X11_schedule_0_tFx n I A J t x1 x2 I44 A44 v44_3 v44_4) (q91_X11_schedule_0_tFx n I A J t x1 x2 I44 A44 v44_3 v44_4) w0 w1 w2 w3 hb h0 h1 h2 h3 hE) cw_le0

set_option maxRecDepth 100000 in
set_option maxHeartbeats 4000000 in
theorem cv_X11_schedule_0_tFx (g : cw_G) (n : Nat) (I : Nat → Nat → Int32) (A : Nat → Nat → Int32) (J : Nat → Nat → Int64) (t : Bool × Bool) (x1 : Int32) (x2 : Int32) (hb : pb_X11_schedule_0_tFx n I A J t x1 x2) : Cd g mX11_schedule [(.ref (cw_z g + 0)), (.int x1), (.int x2)] (hp g I A J (false, t.2)) (some (.int (px_X11_schedule_0_tFx n I A J t x1 x2))) (hp g (pI_X11_schedule_0_tFx n I A J t x1 x2) (pA_X11_schedule_0_tFx n I A J t x1 x2) J (false, t.2)) := by
  unfold pb_X11_schedule_0_tFx at hb
  unfold px_X11_schedule_0_tFx pI_X11_schedule_0_tFx pA_X11_schedule_0_tFx
  refine Cd.of rfl (Nat.le_of_ble_eq_true rfl) (ev_gen (fun Q hQ => ?_))
  refine ev_iload_n (pc := 0) dX11_schedule_0 rfl ?_
  refine ev_Si (pc := 1) dX11_schedule_1 lk_X11_156 cd_X11_isDay ar_X11_isDay ⟨by decide, rfl, rfl⟩ (cv_X11_isDay g n I A J (false, t.2) x1) rfl rfl (Nat.le_of_ble_eq_true rfl) ⟨by decide, by decide⟩ ?_
  have hF_4 := hb
  refine ev_if_eq (pc := 4) (tgt := 18) dX11_schedule_4 (by decide) (fun c_4 => ?_) (fun c_4 => ?_)
  · try simp only [if_pos c_4] at hQ
    refine ev_iconst (pc := 18) (v := (-1)) dX11_schedule_18 (by decide) ?_
    exact ev_iret (pc := 19) dX11_schedule_19 rfl (by decide) (by decide) (hQ _ _ ⟨rfl, rfl⟩)
  · have hb := hF_4 c_4
    try simp only [if_neg c_4] at hQ
    refine ev_aload_n (pc := 7) dX11_schedule_7 rfl ?_
    refine tv_getr (pc := 8) (d := 19) dX11_schedule_8 fl_X11_45 (by decide) rfl rfl ?_
    refine ev_iload_n (pc := 11) dX11_schedule_11 rfl ?_
    refine ev_Vi (pc := 12) dX11_schedule_12 lk_X11_179 cd_X1_canKnow ar_X1_canKnow ⟨by decide, rfl, rfl⟩ (cv_X1_canKnow_19 g n I A J (false, t.2) x2) (show 19 < 120 by decide) rfl rfl rfl rfl (Nat.le_of_ble_eq_true rfl) ⟨by decide, by decide⟩ ?_
    have hT_15 := hb
    refine ev_if_ne (pc := 15) (tgt := 20) dX11_schedule_15 (by decide) (fun c_15 => ?_) (fun c_15 => ?_)
    · have hb := hT_15 c_15
      try simp only [if_neg c_15] at hQ
      refine ev_aload_n (pc := 20) dX11_schedule_20 rfl ?_
      refine ev_iload_n (pc := 21) dX11_schedule_21 rfl ?_
      refine ev_Vv (pc := 22) dX11_schedule_22 lk_X11_183 cd_X11_learn ar_X11_learn ⟨by decide, rfl, rfl⟩ (cv_X11_learn_0 g n I A J (false, t.2) x2 hb.1) (show 0 < 120 by decide) rfl rfl rfl rfl (Nat.le_of_ble_eq_true rfl) ⟨by decide, by decide⟩ ?_
      replace hb := hb.2
      refine ev_aload_n (pc := 25) dX11_schedule_25 rfl ?_
      refine tv_getr (pc := 26) (d := 53) dX11_schedule_26 fl_X11_81 (by decide) rfl rfl ?_
      refine ev_aload_n (pc := 29) dX11_schedule_29 rfl ?_
      refine tv_getr (pc := 30) (d := 12) dX11_schedule_30 fl_X11_31 (by decide) rfl rfl ?_
      refine tv_geti (pc := 33) dX11_schedule_33 fl_X11_216 (by decide) rfl rfl ?_
      refine ev_Vv (pc := 36) dX11_schedule_36 lk_X11_219 cd_X5_renew ar_X5_renew ⟨by decide, rfl, rfl⟩ (cv_X5_renew_53 g n I (pA_X11_learn_0 n I A J (false, t.2) x2) J (false, t.2) (I 12 3) hb.1) (show 53 < 120 by decide) rfl rfl rfl rfl (Nat.le_of_ble_eq_true rfl) ⟨by decide, by decide⟩ ?_
      replace hb := hb.2
      refine ev_iconst (pc := 39) (v := 0) dX11_schedule_39 (by decide) ?_
      refine ev_istore_3 (pc := 40) dX11_schedule_40 (by decide) rfl ?_
      refine ev_iconst (pc := 41) (v := 0) dX11_schedule_41 (by decide) ?_
      refine ev_istore_4 (pc := 42) dX11_schedule_42 (by decide) rfl ?_
      refine lt_X11_schedule_0_tFx_44 g n I A J t x1 x2 n (pI_X5_renew_53 n I (pA_X11_learn_0 n I A J (false, t.2) x2) J (false, t.2) (I 12 3)) (pA_X5_renew_53 n I (pA_X11_learn_0 n I A J (false, t.2) x2) J (false, t.2) (I 12 3)) 0 0 (qIw44_X11_schedule_0_tFx n I A J t x1 x2) (qAw44_X11_schedule_0_tFx n I A J t x1 x2) (q3w44_X11_schedule_0_tFx n I A J t x1 x2) (q4w44_X11_schedule_0_tFx n I A J t x1 x2) hb rfl rfl rfl rfl ?_
      refine ev_iload_n (pc := 97) dX11_schedule_97 rfl ?_
      exact ev_iret (pc := 98) dX11_schedule_98 rfl (by decide) (by decide) (hQ _ _ ⟨rfl, rfl⟩)
    · try simp only [if_pos c_15] at hQ
      refine ev_iconst (pc := 18) (v := (-1)) dX11_schedule_18 (by decide) ?_
      exact ev_iret (pc := 19) dX11_schedule_19 rfl (by decide) (by decide) (hQ _ _ ⟨rfl, rfl⟩)

def px_X11_count_0_tFx (n : Nat) (I : Nat → Nat → Int32) (A : Nat → Nat → Int32) (J : Nat → Nat → Int64) (t : Bool × Bool) (x1 : Int32) : Int32 := (if x1 = 0 then (I 1 3) else (if x1 = 1 then (I 5 3) else (if x1 = 2 then (I 9 2) else (if x1 = 3 then (I 12 3) else (if x1 = 4 then (I 19 9) else (if x1 = 5 then (I 60 8) else (if x1 = 6 then (I 0 14) else (if x1 = 7 then (I 0 13) else (-1)))))))))
set_option maxRecDepth 100000 in
set_option maxHeartbeats 4000000 in
theorem cv_X11_count_0_tFx (g : cw_G) (n : Nat) (I : Nat → Nat → Int32) (A : Nat → Nat → Int32) (J : Nat → Nat → Int64) (t : Bool × Bool) (x1 : Int32) : Cd g mX11_count [(.ref (cw_z g + 0)), (.int x1)] (hp g I A J (false, t.2)) (some (.int (px_X11_count_0_tFx n I A J t x1))) (hp g I A J (false, t.2)) := by
  unfold px_X11_count_0_tFx
  refine Cd.of rfl (Nat.le_of_ble_eq_true rfl) (ev_gen (fun Q hQ => ?_))
  refine ev_iload_n (pc := 0) dX11_count_0 rfl ?_
  by_cases s_1_0 : x1 = 0
  · try simp only [if_pos s_1_0] at hQ
    refine ev_tableIn (pc := 1) (tgt := 48) (off := 47) dX11_count_1 (by rw [s_1_0]; decide) (by rw [s_1_0]; decide) (by rw [s_1_0]; decide) (by decide) ?_
    refine ev_aload_n (pc := 48) dX11_count_48 rfl ?_
    refine tv_getr (pc := 49) (d := 1) dX11_count_49 fl_X11_14 (by decide) rfl rfl ?_
    refine tv_geti (pc := 52) dX11_count_52 fl_X11_253 (by decide) rfl rfl ?_
    exact ev_iret (pc := 55) dX11_count_55 rfl (by decide) (by decide) (hQ _ _ ⟨rfl, rfl⟩)
  try simp only [if_neg s_1_0] at hQ
  by_cases s_1_1 : x1 = 1
  · try simp only [if_pos s_1_1] at hQ
    refine ev_tableIn (pc := 1) (tgt := 56) (off := 55) dX11_count_1 (by rw [s_1_1]; decide) (by rw [s_1_1]; decide) (by rw [s_1_1]; decide) (by decide) ?_
    refine ev_aload_n (pc := 56) dX11_count_56 rfl ?_
    refine tv_getr (pc := 57) (d := 5) dX11_count_57 fl_X11_18 (by decide) rfl rfl ?_
    refine tv_geti (pc := 60) dX11_count_60 fl_X11_253 (by decide) rfl rfl ?_
    exact ev_iret (pc := 63) dX11_count_63 rfl (by decide) (by decide) (hQ _ _ ⟨rfl, rfl⟩)
  try simp only [if_neg s_1_1] at hQ
  by_cases s_1_2 : x1 = 2
  · try simp only [if_pos s_1_2] at hQ
    refine ev_tableIn (pc := 1) (tgt := 64) (off := 63) dX11_count_1 (by rw [s_1_2]; decide) (by rw [s_1_2]; decide) (by rw [s_1_2]; decide) (by decide) ?_
    refine ev_aload_n (pc := 64) dX11_count_64 rfl ?_
    refine tv_getr (pc := 65) (d := 9) dX11_count_65 fl_X11_24 (by decide) rfl rfl ?_
    refine tv_geti (pc := 68) dX11_count_68 fl_X11_224 (by decide) rfl rfl ?_
    exact ev_iret (pc := 71) dX11_count_71 rfl (by decide) (by decide) (hQ _ _ ⟨rfl, rfl⟩)
  try simp only [if_neg s_1_2] at hQ
  by_cases s_1_3 : x1 = 3
  · try simp only [if_pos s_1_3] at hQ
    refine ev_tableIn (pc := 1) (tgt := 72) (off := 71) dX11_count_1 (by rw [s_1_3]; decide) (by rw [s_1_3]; decide) (by rw [s_1_3]; decide) (by decide) ?_
    refine ev_aload_n (pc := 72) dX11_count_72 rfl ?_
    refine tv_getr (pc := 73) (d := 12) dX11_count_73 fl_X11_31 (by decide) rfl rfl ?_
    refine tv_geti (pc := 76) dX11_count_76 fl_X11_216 (by decide) rfl rfl ?_
    exact ev_iret (pc := 79) dX11_count_79 rfl (by decide) (by decide) (hQ _ _ ⟨rfl, rfl⟩)
  try simp only [if_neg s_1_3] at hQ
  by_cases s_1_4 : x1 = 4
  · try simp only [if_pos s_1_4] at hQ
    refine ev_tableIn (pc := 1) (tgt := 80) (off := 79) dX11_count_1 (by rw [s_1_4]; decide) (by rw [s_1_4]; decide) (by rw [s_1_4]; decide) (by decide) ?_
    refine ev_aload_n (pc := 80) dX11_count_80 rfl ?_
    refine tv_getr (pc := 81) (d := 19) dX11_count_81 fl_X11_45 (by decide) rfl rfl ?_
    refine tv_geti (pc := 84) dX11_count_84 fl_X11_254 (by decide) rfl rfl ?_
    exact ev_iret (pc := 87) dX11_count_87 rfl (by decide) (by decide) (hQ _ _ ⟨rfl, rfl⟩)
  try simp only [if_neg s_1_4] at hQ
  by_cases s_1_5 : x1 = 5
  · try simp only [if_pos s_1_5] at hQ
    refine ev_tableIn (pc := 1) (tgt := 88) (off := 87) dX11_count_1 (by rw [s_1_5]; decide) (by rw [s_1_5]; decide) (by rw [s_1_5]; decide) (by decide) ?_
    refine ev_aload_n (pc := 88) dX11_count_88 rfl ?_
    refine tv_getr (pc := 89) (d := 60) dX11_count_89 fl_X11_88 (by decide) rfl rfl ?_
    refine tv_geti (pc := 92) dX11_count_92 fl_X11_255 (by decide) rfl rfl ?_
    exact ev_iret (pc := 95) dX11_count_95 rfl (by decide) (by decide) (hQ _ _ ⟨rfl, rfl⟩)
  try simp only [if_neg s_1_5] at hQ
  by_cases s_1_6 : x1 = 6
  · try simp only [if_pos s_1_6] at hQ
    refine ev_tableIn (pc := 1) (tgt := 96) (off := 95) dX11_count_1 (by rw [s_1_6]; decide) (by rw [s_1_6]; decide) (by rw [s_1_6]; decide) (by decide) ?_
    refine ev_aload_n (pc := 96) dX11_count_96 rfl ?_
    refine tv_geti (pc := 97) dX11_count_97 fl_X11_96 (by decide) rfl rfl ?_
    exact ev_iret (pc := 100) dX11_count_100 rfl (by decide) (by decide) (hQ _ _ ⟨rfl, rfl⟩)
  try simp only [if_neg s_1_6] at hQ
  by_cases s_1_7 : x1 = 7
  · try simp only [if_pos s_1_7] at hQ
    refine ev_tableIn (pc := 1) (tgt := 101) (off := 100) dX11_count_1 (by rw [s_1_7]; decide) (by rw [s_1_7]; decide) (by rw [s_1_7]; decide) (by decide) ?_
    refine ev_aload_n (pc := 101) dX11_count_101 rfl ?_
    refine tv_geti (pc := 102) dX11_count_102 fl_X11_92 (by decide) rfl rfl ?_
    exact ev_iret (pc := 105) dX11_count_105 rfl (by decide) (by decide) (hQ _ _ ⟨rfl, rfl⟩)
  try simp only [if_neg s_1_7] at hQ
  refine ev_tableOut (pc := 1) (tgt := 106) dX11_count_1 (by simp only [← Int32.toInt_inj, Int32.reduceToInt] at s_1_0 s_1_1 s_1_2 s_1_3 s_1_4 s_1_5 s_1_6 s_1_7; omega) (by decide) ?_
  refine ev_iconst (pc := 106) (v := (-1)) dX11_count_106 (by decide) ?_
  exact ev_iret (pc := 107) dX11_count_107 rfl (by decide) (by decide) (hQ _ _ ⟨rfl, rfl⟩)

def q15_X11_read_0_tTx (n : Nat) (I : Nat → Nat → Int32) (A : Nat → Nat → Int32) (J : Nat → Nat → Int64) (t : Bool × Bool) : Int32 := (px_X4_parse_33_32_tTx n I A J (true, t.2) (I 0 13))
def qI18_X11_read_0_tTx (n : Nat) (I : Nat → Nat → Int32) (A : Nat → Nat → Int32) (J : Nat → Nat → Int64) (t : Bool × Bool) : Nat → Nat → Int32 := cw_u (pI_X4_parse_33_32_tTx n I A J (true, t.2) (I 0 13)) 0 13 0
def pb_X11_read_0_tTx (n : Nat) (I : Nat → Nat → Int32) (A : Nat → Nat → Int32) (J : Nat → Nat → Int64) (t : Bool × Bool) : Prop := pb_X4_parse_33_32_tTx n I A J (true, t.2) (I 0 13)
def px_X11_read_0_tTx (n : Nat) (I : Nat → Nat → Int32) (A : Nat → Nat → Int32) (J : Nat → Nat → Int64) (t : Bool × Bool) : Int32 := (q15_X11_read_0_tTx n I A J t)
def pI_X11_read_0_tTx (n : Nat) (I : Nat → Nat → Int32) (A : Nat → Nat → Int32) (J : Nat → Nat → Int64) (t : Bool × Bool) : Nat → Nat → Int32 := (qI18_X11_read_0_tTx n I A J t)
def pA_X11_read_0_tTx (n : Nat) (I : Nat → Nat → Int32) (A : Nat → Nat → Int32) (J : Nat → Nat → Int64) (t : Bool × Bool) : Nat → Nat → Int32 := (pA_X4_parse_33_32_tTx n I A J (true, t.2) (I 0 13))
def pt_X11_read_0_tTx (n : Nat) (I : Nat → Nat → Int32) (A : Nat → Nat → Int32) (J : Nat → Nat → Int64) (t : Bool × Bool) : Bool × Bool := (if (q15_X11_read_0_tTx n I A J t) = 0 then (false, true) else (true, true))
set_option maxRecDepth 100000 in
set_option maxHeartbeats 4000000 in
theorem cv_X11_read_0_tTx (g : cw_G) (n : Nat) (I : Nat → Nat → Int32) (A : Nat → Nat → Int32) (J : Nat → Nat → Int64) (t : Bool × Bool) (hb : pb_X11_read_0_tTx n I A J t) : Cd g mX11_read [(.ref (cw_z g + 0))] (hp g I A J (true, t.2)) (some (.int (px_X11_read_0_tTx n I A J t))) (hp g (pI_X11_read_0_tTx n I A J t) (pA_X11_read_0_tTx n I A J t) J (pt_X11_read_0_tTx n I A J t)) := by
  unfold pb_X11_read_0_tTx at hb
  unfold px_X11_read_0_tTx pI_X11_read_0_tTx pA_X11_read_0_tTx pt_X11_read_0_tTx
  refine Cd.of rfl (Nat.le_of_ble_eq_true rfl) (ev_gen (fun Q hQ => ?_))
  refine ev_aload_n (pc := 0) dX11_read_0 rfl ?_
  refine tv_getr (pc := 1) (d := 33) dX11_read_1 fl_X11_63 (by decide) rfl rfl ?_
  refine ev_aload_n (pc := 4) dX11_read_4 rfl ?_
  refine tv_getr (pc := 5) (d := 32) dX11_read_5 fl_X11_56 (by decide) rfl rfl ?_
  refine ev_aload_n (pc := 8) dX11_read_8 rfl ?_
  refine tv_geti (pc := 9) dX11_read_9 fl_X11_92 (by decide) rfl rfl ?_
  refine ev_Vi (pc := 12) dX11_read_12 lk_X11_102 cd_X4_parse ar_X4_parse ⟨by decide, rfl, rfl⟩ (cv_X4_parse_33_32_tTx g n I A J (true, t.2) (I 0 13) hb) (show 33 < 120 by decide) rfl rfl rfl rfl (Nat.le_of_ble_eq_true rfl) ⟨by decide, by decide⟩ ?_
  refine ev_is (y := (q15_X11_read_0_tTx n I A J t)) rfl ?_
  refine ev_istore_1 (pc := 15) dX11_read_15 (by decide) rfl ?_
  refine ev_aload_n (pc := 16) dX11_read_16 rfl ?_
  refine ev_iconst (pc := 17) (v := 0) dX11_read_17 (by decide) ?_
  refine tw_puti (pc := 18) (I2 := (qI18_X11_read_0_tTx n I A J t)) dX11_read_18 fp_X11_92 (by decide) rfl rfl rfl ?_
  refine ev_iload_n (pc := 21) dX11_read_21 rfl ?_
  refine ev_if_ne (pc := 22) (tgt := 40) dX11_read_22 (by decide) (fun c_22 => ?_) (fun c_22 => ?_)
  · try simp only [if_neg c_22] at hQ
    refine ev_iload_n (pc := 40) dX11_read_40 rfl ?_
    exact ev_iret (pc := 41) dX11_read_41 rfl (by decide) (by decide) (hQ _ _ ⟨rfl, rfl⟩)
  · try simp only [if_pos c_22] at hQ
    refine ev_aload_n (pc := 25) dX11_read_25 rfl ?_
    refine ev_aload_n (pc := 26) dX11_read_26 rfl ?_
    refine tv_getr (pc := 27) (d := 33) dX11_read_27 fl_X11_63 (by decide) rfl rfl ?_
    refine ev_aload_n (pc := 30) dX11_read_30 rfl ?_
    refine tv_getr (pc := 31) (d := 37) dX11_read_31 fl_X11_88 (by decide) rfl rfl ?_
    refine ev_V (r := some (.ref (cw_z g + 60))) (pc := 34) dX11_read_34 lk_X11_106 cd_X4_swapDraft ar_X4_swapDraft ⟨by decide, rfl, rfl⟩ (cv_swap g (qI18_X11_read_0_tTx n I A J t) (pA_X4_parse_33_32_tTx n I A J (true, t.2) (I 0 13)) J (true, true)) (show 33 < 120 by decide) rfl rfl rfl rfl (Nat.le_of_ble_eq_true rfl) ⟨by decide, by decide⟩ ?_
    refine tw_swap (pc := 37) (t := (true, true)) dX11_read_37 fp_X11_88 ?_
    refine ev_iload_n (pc := 40) dX11_read_40 rfl ?_
    exact ev_iret (pc := 41) dX11_read_41 rfl (by decide) (by decide) (hQ _ _ ⟨rfl, rfl⟩)

def qA6_X11_decidingRule_0_tTx (n : Nat) (I : Nat → Nat → Int32) (A : Nat → Nat → Int32) (J : Nat → Nat → Int64) (t : Bool × Bool) (x1 : Int32) (x2 : Int32) (x3 : Int32) (x4 : Int32) (x5 : Int32) (x6 : Int32) : Nat → Nat → Int32 := cw_u A 45 ((0 : Int32)).toNatClampNeg x2
def qA14_X11_decidingRule_0_tTx (n : Nat) (I : Nat → Nat → Int32) (A : Nat → Nat → Int32) (J : Nat → Nat → Int64) (t : Bool × Bool) (x1 : Int32) (x2 : Int32) (x3 : Int32) (x4 : Int32) (x5 : Int32) (x6 : Int32) : Nat → Nat → Int32 := cw_u (qA6_X11_decidingRule_0_tTx n I A J t x1 x2 x3 x4 x5 x6) 45 ((1 : Int32)).toNatClampNeg x5
def qA22_X11_decidingRule_0_tTx (n : Nat) (I : Nat → Nat → Int32) (A : Nat → Nat → Int32) (J : Nat → Nat → Int64) (t : Bool × Bool) (x1 : Int32) (x2 : Int32) (x3 : Int32) (x4 : Int32) (x5 : Int32) (x6 : Int32) : Nat → Nat → Int32 := cw_u (qA14_X11_decidingRule_0_tTx n I A J t x1 x2 x3 x4 x5 x6) 45 ((2 : Int32)).toNatClampNeg x4
def qA29_X11_decidingRule_0_tTx (n : Nat) (I : Nat → Nat → Int32) (A : Nat → Nat → Int32) (J : Nat → Nat → Int64) (t : Bool × Bool) (x1 : Int32) (x2 : Int32) (x3 : Int32) (x4 : Int32) (x5 : Int32) (x6 : Int32) : Nat → Nat → Int32 := cw_u (qA22_X11_decidingRule_0_tTx n I A J t x1 x2 x3 x4 x5 x6) 45 ((3 : Int32)).toNatClampNeg x3
def qA44_X11_decidingRule_0_tTx (n : Nat) (I : Nat → Nat → Int32) (A : Nat → Nat → Int32) (J : Nat → Nat → Int64) (t : Bool × Bool) (x1 : Int32) (x2 : Int32) (x3 : Int32) (x4 : Int32) (x5 : Int32) (x6 : Int32) : Nat → Nat → Int32 := cw_u (qA29_X11_decidingRule_0_tTx n I A J t x1 x2 x3 x4 x5 x6) 45 ((4 : Int32)).toNatClampNeg (px_X1_landOf_19 n I (qA29_X11_decidingRule_0_tTx n I A J t x1 x2 x3 x4 x5 x6) J (true, t.2) x6)
def qA58_X11_decidingRule_0_tTx (n : Nat) (I : Nat → Nat → Int32) (A : Nat → Nat → Int32) (J : Nat → Nat → Int64) (t : Bool × Bool) (x1 : Int32) (x2 : Int32) (x3 : Int32) (x4 : Int32) (x5 : Int32) (x6 : Int32) : Nat → Nat → Int32 := cw_u (qA44_X11_decidingRule_0_tTx n I A J t x1 x2 x3 x4 x5 x6) 45 ((5 : Int32)).toNatClampNeg (px_X2_powerOf_9 n I (qA44_X11_decidingRule_0_tTx n I A J t x1 x2 x3 x4 x5 x6) J (true, t.2) x1)
def qA74_X11_decidingRule_0_tTx (n : Nat) (I : Nat → Nat → Int32) (A : Nat → Nat → Int32) (J : Nat → Nat → Int64) (t : Bool × Bool) (x1 : Int32) (x2 : Int32) (x3 : Int32) (x4 : Int32) (x5 : Int32) (x6 : Int32) : Nat → Nat → Int32 := cw_u (qA58_X11_decidingRule_0_tTx n I A J t x1 x2 x3 x4 x5 x6) 45 ((6 : Int32)).toNatClampNeg (px_X1_dayOf_19 n I (qA58_X11_decidingRule_0_tTx n I A J t x1 x2 x3 x4 x5 x6) J (true, t.2) x6)
def qA83_X11_decidingRule_0_tTx (n : Nat) (I : Nat → Nat → Int32) (A : Nat → Nat → Int32) (J : Nat → Nat → Int64) (t : Bool × Bool) (x1 : Int32) (x2 : Int32) (x3 : Int32) (x4 : Int32) (x5 : Int32) (x6 : Int32) : Nat → Nat → Int32 := cw_u (qA74_X11_decidingRule_0_tTx n I A J t x1 x2 x3 x4 x5 x6) 45 ((7 : Int32)).toNatClampNeg x6
def pb_X11_decidingRule_0_tTx (n : Nat) (I : Nat → Nat → Int32) (A : Nat → Nat → Int32) (J : Nat → Nat → Int64) (t : Bool × Bool) (x1 : Int32) (x2 : Int32) (x3 : Int32) (x4 : Int32) (x5 : Int32) (x6 : Int32) : Prop := vp_in 0 8 ∧ vp_in 1 8 ∧ vp_in 2 8 ∧ vp_in 3 8 ∧ pb_X1_landOf_19 n I (qA29_X11_decidingRule_0_tTx n I A J t x1 x2 x3 x4 x5 x6) J (true, t.2) x6 ∧ vp_in 4 8 ∧ pb_X2_powerOf_9 n I (qA44_X11_decidingRule_0_tTx n I A J t x1 x2 x3 x4 x5 x6) J (true, t.2) x1 ∧ vp_in 5 8 ∧ pb_X1_dayOf_19 n I (qA58_X11_decidingRule_0_tTx n I A J t x1 x2 x3 x4 x5 x6) J (true, t.2) x6 ∧ vp_in 6 8 ∧ vp_in 7 8 ∧ pb_X10_firstHolding_37_45 n I (qA83_X11_decidingRule_0_tTx n I A J t x1 x2 x3 x4 x5 x6) J (true, t.2) x4
def px_X11_decidingRule_0_tTx (n : Nat) (I : Nat → Nat → Int32) (A : Nat → Nat → Int32) (J : Nat → Nat → Int64) (t : Bool × Bool) (x1 : Int32) (x2 : Int32) (x3 : Int32) (x4 : Int32) (x5 : Int32) (x6 : Int32) : Int32 := (px_X10_firstHolding_37_45 n I (qA83_X11_decidingRule_0_tTx n I A J t x1 x2 x3 x4 x5 x6) J (true, t.2) x4)
def pA_X11_decidingRule_0_tTx (n : Nat) (I : Nat → Nat → Int32) (A : Nat → Nat → Int32) (J : Nat → Nat → Int64) (t : Bool × Bool) (x1 : Int32) (x2 : Int32) (x3 : Int32) (x4 : Int32) (x5 : Int32) (x6 : Int32) : Nat → Nat → Int32 := (pA_X10_firstHolding_37_45 n I (qA83_X11_decidingRule_0_tTx n I A J t x1 x2 x3 x4 x5 x6) J (true, t.2) x4)
set_option maxRecDepth 100000 in
set_option maxHeartbeats 4000000 in
theorem cv_X11_decidingRule_0_tTx (g : cw_G) (n : Nat) (I : Nat → Nat → Int32) (A : Nat → Nat → Int32) (J : Nat → Nat → Int64) (t : Bool × Bool) (x1 : Int32) (x2 : Int32) (x3 : Int32) (x4 : Int32) (x5 : Int32) (x6 : Int32) (hb : pb_X11_decidingRule_0_tTx n I A J t x1 x2 x3 x4 x5 x6) : Cd g mX11_decidingRule [(.ref (cw_z g + 0)), (.int x1), (.int x2), (.int x3), (.int x4), (.int x5), (.int x6)] (hp g I A J (true, t.2)) (some (.int (px_X11_decidingRule_0_tTx n I A J t x1 x2 x3 x4 x5 x6))) (hp g I (pA_X11_decidingRule_0_tTx n I A J t x1 x2 x3 x4 x5 x6) J (true, t.2)) := by
  unfold pb_X11_decidingRule_0_tTx at hb
  unfold px_X11_decidingRule_0_tTx pA_X11_decidingRule_0_tTx
  refine Cd.of rfl (Nat.le_of_ble_eq_true rfl) (ev_gen (fun Q hQ => ?_))
  refine ev_aload_n (pc := 0) dX11_decidingRule_0 rfl ?_
  refine tv_getr (pc := 1) (d := 45) dX11_decidingRule_1 fl_X11_67 (by decide) rfl rfl ?_
  refine ev_iconst (pc := 4) (v := 0) dX11_decidingRule_4 (by decide) ?_
  refine ev_iload_n (pc := 5) dX11_decidingRule_5 rfl ?_
  refine tw_iast (pc := 6) (A2 := (qA6_X11_decidingRule_0_tTx n I A J t x1 x2 x3 x4 x5 x6)) dX11_decidingRule_6 (by decide) rfl hb.1 rfl ?_
  replace hb := hb.2
  refine ev_aload_n (pc := 7) dX11_decidingRule_7 rfl ?_
  refine tv_getr (pc := 8) (d := 45) dX11_decidingRule_8 fl_X11_67 (by decide) rfl rfl ?_
  refine ev_iconst (pc := 11) (v := 1) dX11_decidingRule_11 (by decide) ?_
  refine ev_iload (pc := 12) dX11_decidingRule_12 rfl ?_
  refine tw_iast (pc := 14) (A2 := (qA14_X11_decidingRule_0_tTx n I A J t x1 x2 x3 x4 x5 x6)) dX11_decidingRule_14 (by decide) rfl hb.1 rfl ?_
  replace hb := hb.2
  refine ev_aload_n (pc := 15) dX11_decidingRule_15 rfl ?_
  refine tv_getr (pc := 16) (d := 45) dX11_decidingRule_16 fl_X11_67 (by decide) rfl rfl ?_
  refine ev_iconst (pc := 19) (v := 2) dX11_decidingRule_19 (by decide) ?_
  refine ev_iload (pc := 20) dX11_decidingRule_20 rfl ?_
  refine tw_iast (pc := 22) (A2 := (qA22_X11_decidingRule_0_tTx n I A J t x1 x2 x3 x4 x5 x6)) dX11_decidingRule_22 (by decide) rfl hb.1 rfl ?_
  replace hb := hb.2
  refine ev_aload_n (pc := 23) dX11_decidingRule_23 rfl ?_
  refine tv_getr (pc := 24) (d := 45) dX11_decidingRule_24 fl_X11_67 (by decide) rfl rfl ?_
  refine ev_iconst (pc := 27) (v := 3) dX11_decidingRule_27 (by decide) ?_
  refine ev_iload_n (pc := 28) dX11_decidingRule_28 rfl ?_
  refine tw_iast (pc := 29) (A2 := (qA29_X11_decidingRule_0_tTx n I A J t x1 x2 x3 x4 x5 x6)) dX11_decidingRule_29 (by decide) rfl hb.1 rfl ?_
  replace hb := hb.2
  refine ev_aload_n (pc := 30) dX11_decidingRule_30 rfl ?_
  refine tv_getr (pc := 31) (d := 45) dX11_decidingRule_31 fl_X11_67 (by decide) rfl rfl ?_
  refine ev_iconst (pc := 34) (v := 4) dX11_decidingRule_34 (by decide) ?_
  refine ev_aload_n (pc := 35) dX11_decidingRule_35 rfl ?_
  refine tv_getr (pc := 36) (d := 19) dX11_decidingRule_36 fl_X11_45 (by decide) rfl rfl ?_
  refine ev_iload (pc := 39) dX11_decidingRule_39 rfl ?_
  refine ev_Vi (pc := 41) dX11_decidingRule_41 lk_X11_263 cd_X1_landOf ar_X1_landOf ⟨by decide, rfl, rfl⟩ (cv_X1_landOf_19 g n I (qA29_X11_decidingRule_0_tTx n I A J t x1 x2 x3 x4 x5 x6) J (true, t.2) x6 hb.1) (show 19 < 120 by decide) rfl rfl rfl rfl (Nat.le_of_ble_eq_true rfl) ⟨by decide, by decide⟩ ?_
  replace hb := hb.2
  refine tw_iast (pc := 44) (A2 := (qA44_X11_decidingRule_0_tTx n I A J t x1 x2 x3 x4 x5 x6)) dX11_decidingRule_44 (by decide) rfl hb.1 rfl ?_
  replace hb := hb.2
  refine ev_aload_n (pc := 45) dX11_decidingRule_45 rfl ?_
  refine tv_getr (pc := 46) (d := 45) dX11_decidingRule_46 fl_X11_67 (by decide) rfl rfl ?_
  refine ev_iconst (pc := 49) (v := 5) dX11_decidingRule_49 (by decide) ?_
  refine ev_aload_n (pc := 50) dX11_decidingRule_50 rfl ?_
  refine tv_getr (pc := 51) (d := 9) dX11_decidingRule_51 fl_X11_24 (by decide) rfl rfl ?_
  refine ev_iload_n (pc := 54) dX11_decidingRule_54 rfl ?_
  refine ev_Vi (pc := 55) dX11_decidingRule_55 lk_X11_287 cd_X2_powerOf ar_X2_powerOf ⟨by decide, rfl, rfl⟩ (cv_X2_powerOf_9 g n I (qA44_X11_decidingRule_0_tTx n I A J t x1 x2 x3 x4 x5 x6) J (true, t.2) x1 hb.1) (show 9 < 120 by decide) rfl rfl rfl rfl (Nat.le_of_ble_eq_true rfl) ⟨by decide, by decide⟩ ?_
  replace hb := hb.2
  refine tw_iast (pc := 58) (A2 := (qA58_X11_decidingRule_0_tTx n I A J t x1 x2 x3 x4 x5 x6)) dX11_decidingRule_58 (by decide) rfl hb.1 rfl ?_
  replace hb := hb.2
  refine ev_aload_n (pc := 59) dX11_decidingRule_59 rfl ?_
  refine tv_getr (pc := 60) (d := 45) dX11_decidingRule_60 fl_X11_67 (by decide) rfl rfl ?_
  refine ev_bipush (pc := 63) (v := 6) dX11_decidingRule_63 (by decide) ?_
  refine ev_aload_n (pc := 65) dX11_decidingRule_65 rfl ?_
  refine tv_getr (pc := 66) (d := 19) dX11_decidingRule_66 fl_X11_45 (by decide) rfl rfl ?_
  refine ev_iload (pc := 69) dX11_decidingRule_69 rfl ?_
  refine ev_Vi (pc := 71) dX11_decidingRule_71 lk_X11_269 cd_X1_dayOf ar_X1_dayOf ⟨by decide, rfl, rfl⟩ (cv_X1_dayOf_19 g n I (qA58_X11_decidingRule_0_tTx n I A J t x1 x2 x3 x4 x5 x6) J (true, t.2) x6 hb.1) (show 19 < 120 by decide) rfl rfl rfl rfl (Nat.le_of_ble_eq_true rfl) ⟨by decide, by decide⟩ ?_
  replace hb := hb.2
  refine tw_iast (pc := 74) (A2 := (qA74_X11_decidingRule_0_tTx n I A J t x1 x2 x3 x4 x5 x6)) dX11_decidingRule_74 (by decide) rfl hb.1 rfl ?_
  replace hb := hb.2
  refine ev_aload_n (pc := 75) dX11_decidingRule_75 rfl ?_
  refine tv_getr (pc := 76) (d := 45) dX11_decidingRule_76 fl_X11_67 (by decide) rfl rfl ?_
  refine ev_bipush (pc := 79) (v := 7) dX11_decidingRule_79 (by decide) ?_
  refine ev_iload (pc := 81) dX11_decidingRule_81 rfl ?_
  refine tw_iast (pc := 83) (A2 := (qA83_X11_decidingRule_0_tTx n I A J t x1 x2 x3 x4 x5 x6)) dX11_decidingRule_83 (by decide) rfl hb.1 rfl ?_
  replace hb := hb.2
  refine ev_aload_n (pc := 84) dX11_decidingRule_84 rfl ?_
  refine tv_getr (pc := 85) (d := 37) dX11_decidingRule_85 fl_X11_88 (by decide) rfl rfl ?_
  refine ev_iload (pc := 88) dX11_decidingRule_88 rfl ?_
  refine ev_aload_n (pc := 90) dX11_decidingRule_90 rfl ?_
  refine tv_getr (pc := 91) (d := 45) dX11_decidingRule_91 fl_X11_67 (by decide) rfl rfl ?_
  refine ev_Vi (pc := 94) dX11_decidingRule_94 lk_X11_294 cd_X10_firstHolding ar_X10_firstHolding ⟨by decide, rfl, rfl⟩ (cv_X10_firstHolding_37_45 g n I (qA83_X11_decidingRule_0_tTx n I A J t x1 x2 x3 x4 x5 x6) J (true, t.2) x4 hb) (show 37 < 120 by decide) rfl rfl rfl rfl (Nat.le_of_ble_eq_true rfl) ⟨by decide, by decide⟩ ?_
  exact ev_iret (pc := 97) dX11_decidingRule_97 rfl (by decide) (by decide) (hQ _ _ ⟨rfl, rfl⟩)

def q26_X11_firstYield_0_tTx (n : Nat) (I : Nat → Nat → Int32) (A : Nat → Nat → Int32) (J : Nat → Nat → Int64) (t : Bool × Bool) (x1 : Int32) (x2 : Int32) (x3 : Int32) (x4 : Int32) (x5 : Int32) (x6 : Int32) (A3 : Nat → Nat → Int32) (v3_7 : Int32) : Int32 := (px_X1_noticeOn_19 n I A3 J (true, t.2) x2 v3_7)
def q78_X11_firstYield_0_tTx (n : Nat) (I : Nat → Nat → Int32) (A : Nat → Nat → Int32) (J : Nat → Nat → Int64) (t : Bool × Bool) (x1 : Int32) (x2 : Int32) (x3 : Int32) (x4 : Int32) (x5 : Int32) (x6 : Int32) (A3 : Nat → Nat → Int32) (v3_7 : Int32) : Int32 := v3_7 + 1
def lp_X11_firstYield_0_tTx_3 (n : Nat) (I : Nat → Nat → Int32) (A : Nat → Nat → Int32) (J : Nat → Nat → Int64) (t : Bool × Bool) (x1 : Int32) (x2 : Int32) (x3 : Int32) (x4 : Int32) (x5 : Int32) (x6 : Int32) : Nat → (Nat → Nat → Int32) → (Int32) → Int32 × (Nat → Nat → Int32)
  | 0, A3, v3_7 => (0, A3)
  | f + 1, A3, v3_7 => if (px_X1_noticesOn_19 n I A3 J (true, t.2) x2) ≤ v3_7 then ((-1), A3) else if (q26_X11_firstYield_0_tTx n I A J t x1 x2 x3 x4 x5 x6 A3 v3_7) < x6 then if (px_X11_clashes_0 n I A3 J (true, t.2) (q26_X11_firstYield_0_tTx n I A J t x1 x2 x3 x4 x5 x6 A3 v3_7) x2 x3 x4 x5) = 0 then lp_X11_firstYield_0_tTx_3 n I A J t x1 x2 x3 x4 x5 x6 f A3 (q78_X11_firstYield_0_tTx n I A J t x1 x2 x3 x4 x5 x6 A3 v3_7) else if (px_X10_weYieldBy_37 n I (pA_X11_decidingRule_0_tTx n I A3 J (true, t.2) x1 x2 x3 x4 x5 (q26_X11_firstYield_0_tTx n I A J t x1 x2 x3 x4 x5 x6 A3 v3_7)) J (true, t.2) (px_X11_decidingRule_0_tTx n I A3 J (true, t.2) x1 x2 x3 x4 x5 (q26_X11_firstYield_0_tTx n I A J t x1 x2 x3 x4 x5 x6 A3 v3_7))) = 0 then lp_X11_firstYield_0_tTx_3 n I A J t x1 x2 x3 x4 x5 x6 f (pA_X11_decidingRule_0_tTx n I A3 J (true, t.2) x1 x2 x3 x4 x5 (q26_X11_firstYield_0_tTx n I A J t x1 x2 x3 x4 x5 x6 A3 v3_7)) (q78_X11_firstYield_0_tTx n I A J t x1 x2 x3 x4 x5 x6 A3 v3_7) else ((q26_X11_firstYield_0_tTx n I A J t x1 x2 x3 x4 x5 x6 A3 v3_7), (pA_X11_decidingRule_0_tTx n I A3 J (true, t.2) x1 x2 x3 x4 x5 (q26_X11_firstYield_0_tTx n I A J t x1 x2 x3 x4 x5 x6 A3 v3_7))) else ((-1), A3)
def lb_X11_firstYield_0_tTx_3 (n : Nat) (I : Nat → Nat → Int32) (A : Nat → Nat → Int32) (J : Nat → Nat → Int64) (t : Bool × Bool) (x1 : Int32) (x2 : Int32) (x3 : Int32) (x4 : Int32) (x5 : Int32) (x6 : Int32) : Nat → (Nat → Nat → Int32) → (Int32) → Prop
  | 0, _, _ => False
  | f + 1, A3, v3_7 => pb_X1_noticesOn_19 n I A3 J (true, t.2) x2 ∧ (¬ (px_X1_noticesOn_19 n I A3 J (true, t.2) x2) ≤ v3_7 → pb_X1_noticeOn_19 n I A3 J (true, t.2) x2 v3_7 ∧ ((q26_X11_firstYield_0_tTx n I A J t x1 x2 x3 x4 x5 x6 A3 v3_7) < x6 → pb_X11_clashes_0 n I A3 J (true, t.2) (q26_X11_firstYield_0_tTx n I A J t x1 x2 x3 x4 x5 x6 A3 v3_7) x2 x3 x4 x5 ∧ ((px_X11_clashes_0 n I A3 J (true, t.2) (q26_X11_firstYield_0_tTx n I A J t x1 x2 x3 x4 x5 x6 A3 v3_7) x2 x3 x4 x5) = 0 → lb_X11_firstYield_0_tTx_3 n I A J t x1 x2 x3 x4 x5 x6 f A3 (q78_X11_firstYield_0_tTx n I A J t x1 x2 x3 x4 x5 x6 A3 v3_7)) ∧ (¬ (px_X11_clashes_0 n I A3 J (true, t.2) (q26_X11_firstYield_0_tTx n I A J t x1 x2 x3 x4 x5 x6 A3 v3_7) x2 x3 x4 x5) = 0 → pb_X11_decidingRule_0_tTx n I A3 J (true, t.2) x1 x2 x3 x4 x5 (q26_X11_firstYield_0_tTx n I A J t x1 x2 x3 x4 x5 x6 A3 v3_7) ∧ pb_X10_weYieldBy_37 n I (pA_X11_decidingRule_0_tTx n I A3 J (true, t.2) x1 x2 x3 x4 x5 (q26_X11_firstYield_0_tTx n I A J t x1 x2 x3 x4 x5 x6 A3 v3_7)) J (true, t.2) (px_X11_decidingRule_0_tTx n I A3 J (true, t.2) x1 x2 x3 x4 x5 (q26_X11_firstYield_0_tTx n I A J t x1 x2 x3 x4 x5 x6 A3 v3_7)) ∧ ((px_X10_weYieldBy_37 n I (pA_X11_decidingRule_0_tTx n I A3 J (true, t.2) x1 x2 x3 x4 x5 (q26_X11_firstYield_0_tTx n I A J t x1 x2 x3 x4 x5 x6 A3 v3_7)) J (true, t.2) (px_X11_decidingRule_0_tTx n I A3 J (true, t.2) x1 x2 x3 x4 x5 (q26_X11_firstYield_0_tTx n I A J t x1 x2 x3 x4 x5 x6 A3 v3_7))) = 0 → lb_X11_firstYield_0_tTx_3 n I A J t x1 x2 x3 x4 x5 x6 f (pA_X11_decidingRule_0_tTx n I A3 J (true, t.2) x1 x2 x3 x4 x5 (q26_X11_firstYield_0_tTx n I A J t x1 x2 x3 x4 x5 x6 A3 v3_7)) (q78_X11_firstYield_0_tTx n I A J t x1 x2 x3 x4 x5 x6 A3 v3_7)))))
def pb_X11_firstYield_0_tTx (n : Nat) (I : Nat → Nat → Int32) (A : Nat → Nat → Int32) (J : Nat → Nat → Int64) (t : Bool × Bool) (x1 : Int32) (x2 : Int32) (x3 : Int32) (x4 : Int32) (x5 : Int32) (x6 : Int32) : Prop := lb_X11_firstYield_0_tTx_3 n I A J t x1 x2 x3 x4 x5 x6 n A 0
def px_X11_firstYield_0_tTx (n : Nat) (I : Nat → Nat → Int32) (A : Nat → Nat → Int32) (J : Nat → Nat → Int64) (t : Bool × Bool) (x1 : Int32) (x2 : Int32) (x3 : Int32) (x4 : Int32) (x5 : Int32) (x6 : Int32) : Int32 := (lp_X11_firstYield_0_tTx_3 n I A J t x1 x2 x3 x4 x5 x6 n A 0).1
def pA_X11_firstYield_0_tTx (n : Nat) (I : Nat → Nat → Int32) (A : Nat → Nat → Int32) (J : Nat → Nat → Int64) (t : Bool × Bool) (x1 : Int32) (x2 : Int32) (x3 : Int32) (x4 : Int32) (x5 : Int32) (x6 : Int32) : Nat → Nat → Int32 := (lp_X11_firstYield_0_tTx_3 n I A J t x1 x2 x3 x4 x5 x6 n A 0).2
set_option maxRecDepth 100000 in
set_option maxHeartbeats 4000000 in
theorem lt_X11_firstYield_0_tTx_3 (g : cw_G) (n : Nat) (I : Nat → Nat → Int32) (A : Nat → Nat → Int32) (J : Nat → Nat → Int64) (t : Bool × Bool) (x1 : Int32) (x2 : Int32) (x3 : Int32) (x4 : Int32) (x5 : Int32) (x6 : Int32) : ∀ (f : Nat) (A3 : Nat → Nat → Int32) (v3_7 : Int32), lb_X11_firstYield_0_tTx_3 n I A J t x1 x2 x3 x4 x5 x6 f A3 v3_7 → Ev g mX11_firstYield 0 0 3 [some (.ref (cw_z g + 0)), some (.int x1), some (.int x2), some (.int x3), some (.int x4), some (.int x5), some (.int x6), some (.int v3_7), none] [] (hp g I A3 J (true, t.2)) (fun r2 τ2 => r2 = some (.int (lp_X11_firstYield_0_tTx_3 n I A J t x1 x2 x3 x4 x5 x6 f A3 v3_7).1) ∧ τ2 = (hp g I (lp_X11_firstYield_0_tTx_3 n I A J t x1 x2 x3 x4 x5 x6 f A3 v3_7).2 J (true, t.2))) := by
  intro f
  induction f with
  | zero =>
    intro A3 v3_7 hb
    exact hb.elim
  | succ f ih =>
    intro A3 v3_7 hb
    rw [lb_X11_firstYield_0_tTx_3] at hb
    refine ev_gen (fun Q hQ => ?_)
    rw [lp_X11_firstYield_0_tTx_3] at hQ
    refine ev_iload (pc := 3) dX11_firstYield_3 rfl ?_
    refine ev_aload_n (pc := 5) dX11_firstYield_5 rfl ?_
    refine tv_getr (pc := 6) (d := 19) dX11_firstYield_6 fl_X11_45 (by decide) rfl rfl ?_
    refine ev_iload_n (pc := 9) dX11_firstYield_9 rfl ?_
    refine ev_Vi (pc := 10) dX11_firstYield_10 lk_X11_298 cd_X1_noticesOn ar_X1_noticesOn ⟨by decide, rfl, rfl⟩ (cv_X1_noticesOn_19 g n I A3 J (true, t.2) x2 hb.1) (show 19 < 120 by decide) rfl rfl rfl rfl (Nat.le_of_ble_eq_true rfl) ⟨by decide, by decide⟩ ?_
    replace hb := hb.2
    have hF_13 := hb
    refine ev_icmp_ge (pc := 13) (tgt := 84) dX11_firstYield_13 (by decide) (fun c_13 => ?_) (fun c_13 => ?_)
    · try simp only [if_pos c_13] at hQ
      refine ev_iconst (pc := 84) (v := (-1)) dX11_firstYield_84 (by decide) ?_
      exact ev_iret (pc := 85) dX11_firstYield_85 rfl (by decide) (by decide) (hQ _ _ ⟨rfl, rfl⟩)
    · have hb := hF_13 c_13
      try simp only [if_neg c_13] at hQ
      refine ev_aload_n (pc := 16) dX11_firstYield_16 rfl ?_
      refine tv_getr (pc := 17) (d := 19) dX11_firstYield_17 fl_X11_45 (by decide) rfl rfl ?_
      refine ev_iload_n (pc := 20) dX11_firstYield_20 rfl ?_
      refine ev_iload (pc := 21) dX11_firstYield_21 rfl ?_
      refine ev_Vi (pc := 23) dX11_firstYield_23 lk_X11_301 cd_X1_noticeOn ar_X1_noticeOn ⟨by decide, rfl, rfl⟩ (cv_X1_noticeOn_19 g n I A3 J (true, t.2) x2 v3_7 hb.1) (show 19 < 120 by decide) rfl rfl rfl rfl (Nat.le_of_ble_eq_true rfl) ⟨by decide, by decide⟩ ?_
      replace hb := hb.2
      refine ev_is (y := (q26_X11_firstYield_0_tTx n I A J t x1 x2 x3 x4 x5 x6 A3 v3_7)) rfl ?_
      refine ev_istore_8 (pc := 26) dX11_firstYield_26 (by decide) rfl ?_
      refine ev_iload (pc := 28) dX11_firstYield_28 rfl ?_
      refine ev_iload (pc := 30) dX11_firstYield_30 rfl ?_
      have hT_32 := hb
      refine ev_icmp_lt (pc := 32) (tgt := 37) dX11_firstYield_32 (by decide) (fun c_32 => ?_) (fun c_32 => ?_)
      · have hb := hT_32 c_32
        try simp only [if_pos c_32] at hQ
        refine ev_aload_n (pc := 37) dX11_firstYield_37 rfl ?_
        refine ev_iload (pc := 38) dX11_firstYield_38 rfl ?_
        refine ev_iload_n (pc := 40) dX11_firstYield_40 rfl ?_
        refine ev_iload_n (pc := 41) dX11_firstYield_41 rfl ?_
        refine ev_iload (pc := 42) dX11_firstYield_42 rfl ?_
        refine ev_iload (pc := 44) dX11_firstYield_44 rfl ?_
        refine ev_Vi (pc := 46) dX11_firstYield_46 lk_X11_210 cd_X11_clashes ar_X11_clashes ⟨by decide, rfl, rfl⟩ (cv_X11_clashes_0 g n I A3 J (true, t.2) (q26_X11_firstYield_0_tTx n I A J t x1 x2 x3 x4 x5 x6 A3 v3_7) x2 x3 x4 x5 hb.1) (show 0 < 120 by decide) rfl rfl rfl rfl (Nat.le_of_ble_eq_true rfl) ⟨by decide, by decide⟩ ?_
        replace hb := hb.2
        obtain ⟨hT_49, hF_49⟩ := hb
        refine ev_if_eq (pc := 49) (tgt := 78) dX11_firstYield_49 (by decide) (fun c_49 => ?_) (fun c_49 => ?_)
        · have hb := hT_49 c_49
          try simp only [if_pos c_49] at hQ
          refine ev_iinc_7 (pc := 78) (v := (q78_X11_firstYield_0_tTx n I A J t x1 x2 x3 x4 x5 x6 A3 v3_7)) dX11_firstYield_78 (by decide) rfl rfl ?_
          refine ev_goto (pc := 81) (tgt := 3) dX11_firstYield_81 (by decide) ?_
          exact ev_mono (ev_loc (ih A3 (q78_X11_firstYield_0_tTx n I A J t x1 x2 x3 x4 x5 x6 A3 v3_7) hb) (cw_leS (cw_leS (cw_leS (cw_leS (cw_leS (cw_leS (cw_leS (cw_leS (cw_leN cw_le0)))))))))) hQ
        · have hb := hF_49 c_49
          try simp only [if_neg c_49] at hQ
          refine ev_aload_n (pc := 52) dX11_firstYield_52 rfl ?_
          refine tv_getr (pc := 53) (d := 37) dX11_firstYield_53 fl_X11_88 (by decide) rfl rfl ?_
          refine ev_aload_n (pc := 56) dX11_firstYield_56 rfl ?_
          refine ev_iload_n (pc := 57) dX11_firstYield_57 rfl ?_
          refine ev_iload_n (pc := 58) dX11_firstYield_58 rfl ?_
          refine ev_iload_n (pc := 59) dX11_firstYield_59 rfl ?_
          refine ev_iload (pc := 60) dX11_firstYield_60 rfl ?_
          refine ev_iload (pc := 62) dX11_firstYield_62 rfl ?_
          refine ev_iload (pc := 64) dX11_firstYield_64 rfl ?_
          refine ev_Vi (pc := 66) dX11_firstYield_66 lk_X11_213 cd_X11_decidingRule ar_X11_decidingRule ⟨by decide, rfl, rfl⟩ (cv_X11_decidingRule_0_tTx g n I A3 J (true, t.2) x1 x2 x3 x4 x5 (q26_X11_firstYield_0_tTx n I A J t x1 x2 x3 x4 x5 x6 A3 v3_7) hb.1) (show 0 < 120 by decide) rfl rfl rfl rfl (Nat.le_of_ble_eq_true rfl) ⟨by decide, by decide⟩ ?_
          replace hb := hb.2
          refine ev_Vi (pc := 69) dX11_firstYield_69 lk_X11_304 cd_X10_weYieldBy ar_X10_weYieldBy ⟨by decide, rfl, rfl⟩ (cv_X10_weYieldBy_37 g n I (pA_X11_decidingRule_0_tTx n I A3 J (true, t.2) x1 x2 x3 x4 x5 (q26_X11_firstYield_0_tTx n I A J t x1 x2 x3 x4 x5 x6 A3 v3_7)) J (true, t.2) (px_X11_decidingRule_0_tTx n I A3 J (true, t.2) x1 x2 x3 x4 x5 (q26_X11_firstYield_0_tTx n I A J t x1 x2 x3 x4 x5 x6 A3 v3_7)) hb.1) (show 37 < 120 by decide) rfl rfl rfl rfl (Nat.le_of_ble_eq_true rfl) ⟨by decide, by decide⟩ ?_
          replace hb := hb.2
          have hT_72 := hb
          refine ev_if_eq (pc := 72) (tgt := 78) dX11_firstYield_72 (by decide) (fun c_72 => ?_) (fun c_72 => ?_)
          · have hb := hT_72 c_72
            try simp only [if_pos c_72] at hQ
            refine ev_iinc_7 (pc := 78) (v := (q78_X11_firstYield_0_tTx n I A J t x1 x2 x3 x4 x5 x6 A3 v3_7)) dX11_firstYield_78 (by decide) rfl rfl ?_
            refine ev_goto (pc := 81) (tgt := 3) dX11_firstYield_81 (by decide) ?_
            exact ev_mono (ev_loc (ih (pA_X11_decidingRule_0_tTx n I A3 J (true, t.2) x1 x2 x3 x4 x5 (q26_X11_firstYield_0_tTx n I A J t x1 x2 x3 x4 x5 x6 A3 v3_7)) (q78_X11_firstYield_0_tTx n I A J t x1 x2 x3 x4 x5 x6 A3 v3_7) hb) (cw_leS (cw_leS (cw_leS (cw_leS (cw_leS (cw_leS (cw_leS (cw_leS (cw_leN cw_le0)))))))))) hQ
          · try simp only [if_neg c_72] at hQ
            refine ev_iload (pc := 75) dX11_firstYield_75 rfl ?_
            exact ev_iret (pc := 77) dX11_firstYield_77 rfl (by decide) (by decide) (hQ _ _ ⟨rfl, rfl⟩)
      · try simp only [if_neg c_32] at hQ
        refine ev_iconst (pc := 35) (v := (-1)) dX11_firstYield_35 (by decide) ?_
        exact ev_iret (pc := 36) dX11_firstYield_36 rfl (by decide) (by decide) (hQ _ _ ⟨rfl, rfl⟩)

set_option maxRecDepth 100000 in
set_option maxHeartbeats 4000000 in
theorem cv_X11_firstYield_0_tTx (g : cw_G) (n : Nat) (I : Nat → Nat → Int32) (A : Nat → Nat → Int32) (J : Nat → Nat → Int64) (t : Bool × Bool) (x1 : Int32) (x2 : Int32) (x3 : Int32) (x4 : Int32) (x5 : Int32) (x6 : Int32) (hb : pb_X11_firstYield_0_tTx n I A J t x1 x2 x3 x4 x5 x6) : Cd g mX11_firstYield [(.ref (cw_z g + 0)), (.int x1), (.int x2), (.int x3), (.int x4), (.int x5), (.int x6)] (hp g I A J (true, t.2)) (some (.int (px_X11_firstYield_0_tTx n I A J t x1 x2 x3 x4 x5 x6))) (hp g I (pA_X11_firstYield_0_tTx n I A J t x1 x2 x3 x4 x5 x6) J (true, t.2)) := by
  unfold pb_X11_firstYield_0_tTx at hb
  unfold px_X11_firstYield_0_tTx pA_X11_firstYield_0_tTx
  refine Cd.of rfl (Nat.le_of_ble_eq_true rfl) (ev_gen (fun Q hQ => ?_))
  refine ev_iconst (pc := 0) (v := 0) dX11_firstYield_0 (by decide) ?_
  refine ev_istore_7 (pc := 1) dX11_firstYield_1 (by decide) rfl ?_
  exact ev_mono (ev_loc (lt_X11_firstYield_0_tTx_3 g n I A J t x1 x2 x3 x4 x5 x6 n A 0 hb) cw_le0) hQ

def pb_X11_yields_0_tTx (n : Nat) (I : Nat → Nat → Int32) (A : Nat → Nat → Int32) (J : Nat → Nat → Int64) (t : Bool × Bool) (x1 : Int32) (x2 : Int32) (x3 : Int32) (x4 : Int32) (x5 : Int32) (x6 : Int32) : Prop := (¬ (px_X11_isSending_0 n I A J (true, t.2) x1 x2 x3 x4 x5) = 0 → (¬ (px_X1_canKnow_19 n I A J (true, t.2) x6) = 0 → pb_X11_firstYield_0_tTx n I A J (true, t.2) x1 x2 x3 x4 x5 x6))
def px_X11_yields_0_tTx (n : Nat) (I : Nat → Nat → Int32) (A : Nat → Nat → Int32) (J : Nat → Nat → Int64) (t : Bool × Bool) (x1 : Int32) (x2 : Int32) (x3 : Int32) (x4 : Int32) (x5 : Int32) (x6 : Int32) : Int32 := (if (px_X11_isSending_0 n I A J (true, t.2) x1 x2 x3 x4 x5) = 0 then (-1) else (if (px_X1_canKnow_19 n I A J (true, t.2) x6) = 0 then (-1) else (px_X11_firstYield_0_tTx n I A J (true, t.2) x1 x2 x3 x4 x5 x6)))
def pA_X11_yields_0_tTx (n : Nat) (I : Nat → Nat → Int32) (A : Nat → Nat → Int32) (J : Nat → Nat → Int64) (t : Bool × Bool) (x1 : Int32) (x2 : Int32) (x3 : Int32) (x4 : Int32) (x5 : Int32) (x6 : Int32) : Nat → Nat → Int32 := (if (px_X11_isSending_0 n I A J (true, t.2) x1 x2 x3 x4 x5) = 0 then A else (if (px_X1_canKnow_19 n I A J (true, t.2) x6) = 0 then A else (pA_X11_firstYield_0_tTx n I A J (true, t.2) x1 x2 x3 x4 x5 x6)))
set_option maxRecDepth 100000 in
set_option maxHeartbeats 4000000 in
theorem cv_X11_yields_0_tTx (g : cw_G) (n : Nat) (I : Nat → Nat → Int32) (A : Nat → Nat → Int32) (J : Nat → Nat → Int64) (t : Bool × Bool) (x1 : Int32) (x2 : Int32) (x3 : Int32) (x4 : Int32) (x5 : Int32) (x6 : Int32) (hb : pb_X11_yields_0_tTx n I A J t x1 x2 x3 x4 x5 x6) : Cd g mX11_yields [(.ref (cw_z g + 0)), (.int x1), (.int x2), (.int x3), (.int x4), (.int x5), (.int x6)] (hp g I A J (true, t.2)) (some (.int (px_X11_yields_0_tTx n I A J t x1 x2 x3 x4 x5 x6))) (hp g I (pA_X11_yields_0_tTx n I A J t x1 x2 x3 x4 x5 x6) J (true, t.2)) := by
  unfold pb_X11_yields_0_tTx at hb
  unfold px_X11_yields_0_tTx pA_X11_yields_0_tTx
  refine Cd.of rfl (Nat.le_of_ble_eq_true rfl) (ev_gen (fun Q hQ => ?_))
  refine ev_aload_n (pc := 0) dX11_yields_0 rfl ?_
  refine ev_iload_n (pc := 1) dX11_yields_1 rfl ?_
  refine ev_iload_n (pc := 2) dX11_yields_2 rfl ?_
  refine ev_iload_n (pc := 3) dX11_yields_3 rfl ?_
  refine ev_iload (pc := 4) dX11_yields_4 rfl ?_
  refine ev_iload (pc := 6) dX11_yields_6 rfl ?_
  refine ev_Vi (pc := 8) dX11_yields_8 lk_X11_189 cd_X11_isSending ar_X11_isSending ⟨by decide, rfl, rfl⟩ (cv_X11_isSending_0 g n I A J (true, t.2) x1 x2 x3 x4 x5) (show 0 < 120 by decide) rfl rfl rfl rfl (Nat.le_of_ble_eq_true rfl) ⟨by decide, by decide⟩ ?_
  have hF_11 := hb
  refine ev_if_eq (pc := 11) (tgt := 26) dX11_yields_11 (by decide) (fun c_11 => ?_) (fun c_11 => ?_)
  · try simp only [if_pos c_11] at hQ
    refine ev_iconst (pc := 26) (v := (-1)) dX11_yields_26 (by decide) ?_
    exact ev_iret (pc := 27) dX11_yields_27 rfl (by decide) (by decide) (hQ _ _ ⟨rfl, rfl⟩)
  · have hb := hF_11 c_11
    try simp only [if_neg c_11] at hQ
    refine ev_aload_n (pc := 14) dX11_yields_14 rfl ?_
    refine tv_getr (pc := 15) (d := 19) dX11_yields_15 fl_X11_45 (by decide) rfl rfl ?_
    refine ev_iload (pc := 18) dX11_yields_18 rfl ?_
    refine ev_Vi (pc := 20) dX11_yields_20 lk_X11_179 cd_X1_canKnow ar_X1_canKnow ⟨by decide, rfl, rfl⟩ (cv_X1_canKnow_19 g n I A J (true, t.2) x6) (show 19 < 120 by decide) rfl rfl rfl rfl (Nat.le_of_ble_eq_true rfl) ⟨by decide, by decide⟩ ?_
    have hT_23 := hb
    refine ev_if_ne (pc := 23) (tgt := 28) dX11_yields_23 (by decide) (fun c_23 => ?_) (fun c_23 => ?_)
    · have hb := hT_23 c_23
      try simp only [if_neg c_23] at hQ
      refine ev_aload_n (pc := 28) dX11_yields_28 rfl ?_
      refine ev_iload_n (pc := 29) dX11_yields_29 rfl ?_
      refine ev_iload_n (pc := 30) dX11_yields_30 rfl ?_
      refine ev_iload_n (pc := 31) dX11_yields_31 rfl ?_
      refine ev_iload (pc := 32) dX11_yields_32 rfl ?_
      refine ev_iload (pc := 34) dX11_yields_34 rfl ?_
      refine ev_iload (pc := 36) dX11_yields_36 rfl ?_
      refine ev_Vi (pc := 38) dX11_yields_38 lk_X11_204 cd_X11_firstYield ar_X11_firstYield ⟨by decide, rfl, rfl⟩ (cv_X11_firstYield_0_tTx g n I A J (true, t.2) x1 x2 x3 x4 x5 x6 hb) (show 0 < 120 by decide) rfl rfl rfl rfl (Nat.le_of_ble_eq_true rfl) ⟨by decide, by decide⟩ ?_
      exact ev_iret (pc := 41) dX11_yields_41 rfl (by decide) (by decide) (hQ _ _ ⟨rfl, rfl⟩)
    · try simp only [if_pos c_23] at hQ
      refine ev_iconst (pc := 26) (v := (-1)) dX11_yields_26 (by decide) ?_
      exact ev_iret (pc := 27) dX11_yields_27 rfl (by decide) (by decide) (hQ _ _ ⟨rfl, rfl⟩)

def pb_X11_rule_0_tTx (n : Nat) (I : Nat → Nat → Int32) (A : Nat → Nat → Int32) (J : Nat → Nat → Int64) (t : Bool × Bool) (x1 : Int32) (x2 : Int32) (x3 : Int32) (x4 : Int32) (x5 : Int32) (x6 : Int32) : Prop := (¬ (px_X11_isSending_0 n I A J (true, t.2) x1 x2 x3 x4 x5) = 0 → pb_X1_isNotice_19 n I A J (true, t.2) x6 ∧ (¬ (px_X1_isNotice_19 n I A J (true, t.2) x6) = 0 → pb_X11_clashes_0 n I A J (true, t.2) x6 x2 x3 x4 x5 ∧ (¬ (px_X11_clashes_0 n I A J (true, t.2) x6 x2 x3 x4 x5) = 0 → pb_X11_decidingRule_0_tTx n I A J (true, t.2) x1 x2 x3 x4 x5 x6)))
def px_X11_rule_0_tTx (n : Nat) (I : Nat → Nat → Int32) (A : Nat → Nat → Int32) (J : Nat → Nat → Int64) (t : Bool × Bool) (x1 : Int32) (x2 : Int32) (x3 : Int32) (x4 : Int32) (x5 : Int32) (x6 : Int32) : Int32 := (if (px_X11_isSending_0 n I A J (true, t.2) x1 x2 x3 x4 x5) = 0 then (-1) else (if (px_X1_isNotice_19 n I A J (true, t.2) x6) = 0 then (-1) else (if (px_X11_clashes_0 n I A J (true, t.2) x6 x2 x3 x4 x5) = 0 then (-1) else (px_X11_decidingRule_0_tTx n I A J (true, t.2) x1 x2 x3 x4 x5 x6))))
def pA_X11_rule_0_tTx (n : Nat) (I : Nat → Nat → Int32) (A : Nat → Nat → Int32) (J : Nat → Nat → Int64) (t : Bool × Bool) (x1 : Int32) (x2 : Int32) (x3 : Int32) (x4 : Int32) (x5 : Int32) (x6 : Int32) : Nat → Nat → Int32 := (if (px_X11_isSending_0 n I A J (true, t.2) x1 x2 x3 x4 x5) = 0 then A else (if (px_X1_isNotice_19 n I A J (true, t.2) x6) = 0 then A else (if (px_X11_clashes_0 n I A J (true, t.2) x6 x2 x3 x4 x5) = 0 then A else (pA_X11_decidingRule_0_tTx n I A J (true, t.2) x1 x2 x3 x4 x5 x6))))
set_option maxRecDepth 100000 in
set_option maxHeartbeats 4000000 in
theorem cv_X11_rule_0_tTx (g : cw_G) (n : Nat) (I : Nat → Nat → Int32) (A : Nat → Nat → Int32) (J : Nat → Nat → Int64) (t : Bool × Bool) (x1 : Int32) (x2 : Int32) (x3 : Int32) (x4 : Int32) (x5 : Int32) (x6 : Int32) (hb : pb_X11_rule_0_tTx n I A J t x1 x2 x3 x4 x5 x6) : Cd g mX11_rule [(.ref (cw_z g + 0)), (.int x1), (.int x2), (.int x3), (.int x4), (.int x5), (.int x6)] (hp g I A J (true, t.2)) (some (.int (px_X11_rule_0_tTx n I A J t x1 x2 x3 x4 x5 x6))) (hp g I (pA_X11_rule_0_tTx n I A J t x1 x2 x3 x4 x5 x6) J (true, t.2)) := by
  unfold pb_X11_rule_0_tTx at hb
  unfold px_X11_rule_0_tTx pA_X11_rule_0_tTx
  refine Cd.of rfl (Nat.le_of_ble_eq_true rfl) (ev_gen (fun Q hQ => ?_))
  refine ev_aload_n (pc := 0) dX11_rule_0 rfl ?_
  refine ev_iload_n (pc := 1) dX11_rule_1 rfl ?_
  refine ev_iload_n (pc := 2) dX11_rule_2 rfl ?_
  refine ev_iload_n (pc := 3) dX11_rule_3 rfl ?_
  refine ev_iload (pc := 4) dX11_rule_4 rfl ?_
  refine ev_iload (pc := 6) dX11_rule_6 rfl ?_
  refine ev_Vi (pc := 8) dX11_rule_8 lk_X11_189 cd_X11_isSending ar_X11_isSending ⟨by decide, rfl, rfl⟩ (cv_X11_isSending_0 g n I A J (true, t.2) x1 x2 x3 x4 x5) (show 0 < 120 by decide) rfl rfl rfl rfl (Nat.le_of_ble_eq_true rfl) ⟨by decide, by decide⟩ ?_
  have hF_11 := hb
  refine ev_if_eq (pc := 11) (tgt := 41) dX11_rule_11 (by decide) (fun c_11 => ?_) (fun c_11 => ?_)
  · try simp only [if_pos c_11] at hQ
    refine ev_iconst (pc := 41) (v := (-1)) dX11_rule_41 (by decide) ?_
    exact ev_iret (pc := 42) dX11_rule_42 rfl (by decide) (by decide) (hQ _ _ ⟨rfl, rfl⟩)
  · have hb := hF_11 c_11
    try simp only [if_neg c_11] at hQ
    refine ev_aload_n (pc := 14) dX11_rule_14 rfl ?_
    refine tv_getr (pc := 15) (d := 19) dX11_rule_15 fl_X11_45 (by decide) rfl rfl ?_
    refine ev_iload (pc := 18) dX11_rule_18 rfl ?_
    refine ev_Vi (pc := 20) dX11_rule_20 lk_X11_207 cd_X1_isNotice ar_X1_isNotice ⟨by decide, rfl, rfl⟩ (cv_X1_isNotice_19 g n I A J (true, t.2) x6 hb.1) (show 19 < 120 by decide) rfl rfl rfl rfl (Nat.le_of_ble_eq_true rfl) ⟨by decide, by decide⟩ ?_
    replace hb := hb.2
    have hF_23 := hb
    refine ev_if_eq (pc := 23) (tgt := 41) dX11_rule_23 (by decide) (fun c_23 => ?_) (fun c_23 => ?_)
    · try simp only [if_pos c_23] at hQ
      refine ev_iconst (pc := 41) (v := (-1)) dX11_rule_41 (by decide) ?_
      exact ev_iret (pc := 42) dX11_rule_42 rfl (by decide) (by decide) (hQ _ _ ⟨rfl, rfl⟩)
    · have hb := hF_23 c_23
      try simp only [if_neg c_23] at hQ
      refine ev_aload_n (pc := 26) dX11_rule_26 rfl ?_
      refine ev_iload (pc := 27) dX11_rule_27 rfl ?_
      refine ev_iload_n (pc := 29) dX11_rule_29 rfl ?_
      refine ev_iload_n (pc := 30) dX11_rule_30 rfl ?_
      refine ev_iload (pc := 31) dX11_rule_31 rfl ?_
      refine ev_iload (pc := 33) dX11_rule_33 rfl ?_
      refine ev_Vi (pc := 35) dX11_rule_35 lk_X11_210 cd_X11_clashes ar_X11_clashes ⟨by decide, rfl, rfl⟩ (cv_X11_clashes_0 g n I A J (true, t.2) x6 x2 x3 x4 x5 hb.1) (show 0 < 120 by decide) rfl rfl rfl rfl (Nat.le_of_ble_eq_true rfl) ⟨by decide, by decide⟩ ?_
      replace hb := hb.2
      have hT_38 := hb
      refine ev_if_ne (pc := 38) (tgt := 43) dX11_rule_38 (by decide) (fun c_38 => ?_) (fun c_38 => ?_)
      · have hb := hT_38 c_38
        try simp only [if_neg c_38] at hQ
        refine ev_aload_n (pc := 43) dX11_rule_43 rfl ?_
        refine ev_iload_n (pc := 44) dX11_rule_44 rfl ?_
        refine ev_iload_n (pc := 45) dX11_rule_45 rfl ?_
        refine ev_iload_n (pc := 46) dX11_rule_46 rfl ?_
        refine ev_iload (pc := 47) dX11_rule_47 rfl ?_
        refine ev_iload (pc := 49) dX11_rule_49 rfl ?_
        refine ev_iload (pc := 51) dX11_rule_51 rfl ?_
        refine ev_Vi (pc := 53) dX11_rule_53 lk_X11_213 cd_X11_decidingRule ar_X11_decidingRule ⟨by decide, rfl, rfl⟩ (cv_X11_decidingRule_0_tTx g n I A J (true, t.2) x1 x2 x3 x4 x5 x6 hb) (show 0 < 120 by decide) rfl rfl rfl rfl (Nat.le_of_ble_eq_true rfl) ⟨by decide, by decide⟩ ?_
        exact ev_iret (pc := 56) dX11_rule_56 rfl (by decide) (by decide) (hQ _ _ ⟨rfl, rfl⟩)
      · try simp only [if_pos c_38] at hQ
        refine ev_iconst (pc := 41) (v := (-1)) dX11_rule_41 (by decide) ?_
        exact ev_iret (pc := 42) dX11_rule_42 rfl (by decide) (by decide) (hQ _ _ ⟨rfl, rfl⟩)

def q8_X11_offer_0_tTx (n : Nat) (I : Nat → Nat → Int32) (A : Nat → Nat → Int32) (J : Nat → Nat → Int64) (t : Bool × Bool) (x1 : Int32) (x2 : Int32) (x3 : Int32) (x4 : Int32) (x5 : Int32) : Int32 := (px_X6_landOf_12 n I A J (true, t.2) x1)
def q27_X11_offer_0_tTx (n : Nat) (I : Nat → Nat → Int32) (A : Nat → Nat → Int32) (J : Nat → Nat → Int64) (t : Bool × Bool) (x1 : Int32) (x2 : Int32) (x3 : Int32) (x4 : Int32) (x5 : Int32) : Int32 := (px_X11_firstCell_0 n I A J (true, t.2) (px_X2_siteOf_9 n I A J (true, t.2) x2) (q8_X11_offer_0_tTx n I A J t x1 x2 x3 x4 x5) x3 x4)
def q58_X11_offer_0_tTx (n : Nat) (I : Nat → Nat → Int32) (A : Nat → Nat → Int32) (J : Nat → Nat → Int64) (t : Bool × Bool) (x1 : Int32) (x2 : Int32) (x3 : Int32) (x4 : Int32) (x5 : Int32) (A39 : Nat → Nat → Int32) (v39_8 : Int32) (v39_9 : Int32) (v39_10 : Int32) : Int32 := (px_X11_strengthBy_0 n I A39 J (true, t.2) x2 v39_10 (q8_X11_offer_0_tTx n I A J t x1 x2 x3 x4 x5) x3 (q27_X11_offer_0_tTx n I A J t x1 x2 x3 x4 x5))
def ql8m82_X11_offer_0_tTx (n : Nat) (I : Nat → Nat → Int32) (A : Nat → Nat → Int32) (J : Nat → Nat → Int64) (t : Bool × Bool) (x1 : Int32) (x2 : Int32) (x3 : Int32) (x4 : Int32) (x5 : Int32) (A39 : Nat → Nat → Int32) (v39_8 : Int32) (v39_9 : Int32) (v39_10 : Int32) : Int32 := if (px_X11_firstYield_0_tTx n I A39 J (true, t.2) x2 v39_10 (q8_X11_offer_0_tTx n I A J t x1 x2 x3 x4 x5) x3 x4 x5) = (-1) then (q58_X11_offer_0_tTx n I A J t x1 x2 x3 x4 x5 A39 v39_8 v39_9 v39_10) else v39_8
def ql9m82_X11_offer_0_tTx (n : Nat) (I : Nat → Nat → Int32) (A : Nat → Nat → Int32) (J : Nat → Nat → Int64) (t : Bool × Bool) (x1 : Int32) (x2 : Int32) (x3 : Int32) (x4 : Int32) (x5 : Int32) (A39 : Nat → Nat → Int32) (v39_8 : Int32) (v39_9 : Int32) (v39_10 : Int32) : Int32 := if (px_X11_firstYield_0_tTx n I A39 J (true, t.2) x2 v39_10 (q8_X11_offer_0_tTx n I A J t x1 x2 x3 x4 x5) x3 x4 x5) = (-1) then v39_10 else v39_9
def qAm64_X11_offer_0_tTx (n : Nat) (I : Nat → Nat → Int32) (A : Nat → Nat → Int32) (J : Nat → Nat → Int64) (t : Bool × Bool) (x1 : Int32) (x2 : Int32) (x3 : Int32) (x4 : Int32) (x5 : Int32) (A39 : Nat → Nat → Int32) (v39_8 : Int32) (v39_9 : Int32) (v39_10 : Int32) : Nat → Nat → Int32 := if (q58_X11_offer_0_tTx n I A J t x1 x2 x3 x4 x5 A39 v39_8 v39_9 v39_10) ≤ v39_8 then A39 else (pA_X11_firstYield_0_tTx n I A39 J (true, t.2) x2 v39_10 (q8_X11_offer_0_tTx n I A J t x1 x2 x3 x4 x5) x3 x4 x5)
def ql8m64_X11_offer_0_tTx (n : Nat) (I : Nat → Nat → Int32) (A : Nat → Nat → Int32) (J : Nat → Nat → Int64) (t : Bool × Bool) (x1 : Int32) (x2 : Int32) (x3 : Int32) (x4 : Int32) (x5 : Int32) (A39 : Nat → Nat → Int32) (v39_8 : Int32) (v39_9 : Int32) (v39_10 : Int32) : Int32 := if (q58_X11_offer_0_tTx n I A J t x1 x2 x3 x4 x5 A39 v39_8 v39_9 v39_10) ≤ v39_8 then v39_8 else (ql8m82_X11_offer_0_tTx n I A J t x1 x2 x3 x4 x5 A39 v39_8 v39_9 v39_10)
def ql9m64_X11_offer_0_tTx (n : Nat) (I : Nat → Nat → Int32) (A : Nat → Nat → Int32) (J : Nat → Nat → Int64) (t : Bool × Bool) (x1 : Int32) (x2 : Int32) (x3 : Int32) (x4 : Int32) (x5 : Int32) (A39 : Nat → Nat → Int32) (v39_8 : Int32) (v39_9 : Int32) (v39_10 : Int32) : Int32 := if (q58_X11_offer_0_tTx n I A J t x1 x2 x3 x4 x5 A39 v39_8 v39_9 v39_10) ≤ v39_8 then v39_9 else (ql9m82_X11_offer_0_tTx n I A J t x1 x2 x3 x4 x5 A39 v39_8 v39_9 v39_10)
def q93_X11_offer_0_tTx (n : Nat) (I : Nat → Nat → Int32) (A : Nat → Nat → Int32) (J : Nat → Nat → Int64) (t : Bool × Bool) (x1 : Int32) (x2 : Int32) (x3 : Int32) (x4 : Int32) (x5 : Int32) (A39 : Nat → Nat → Int32) (v39_8 : Int32) (v39_9 : Int32) (v39_10 : Int32) : Int32 := v39_10 + 1
def lp_X11_offer_0_tTx_39 (n : Nat) (I : Nat → Nat → Int32) (A : Nat → Nat → Int32) (J : Nat → Nat → Int64) (t : Bool × Bool) (x1 : Int32) (x2 : Int32) (x3 : Int32) (x4 : Int32) (x5 : Int32) : Nat → (Nat → Nat → Int32) → (Int32) → (Int32) → (Int32) → (Nat → Nat → Int32) × Int32 × Int32 × Int32
  | 0, A39, v39_8, v39_9, v39_10 => (A39, v39_8, v39_9, v39_10)
  | f + 1, A39, v39_8, v39_9, v39_10 => if 6 ≤ v39_10 then (A39, v39_8, v39_9, v39_10) else lp_X11_offer_0_tTx_39 n I A J t x1 x2 x3 x4 x5 f (qAm64_X11_offer_0_tTx n I A J t x1 x2 x3 x4 x5 A39 v39_8 v39_9 v39_10) (ql8m64_X11_offer_0_tTx n I A J t x1 x2 x3 x4 x5 A39 v39_8 v39_9 v39_10) (ql9m64_X11_offer_0_tTx n I A J t x1 x2 x3 x4 x5 A39 v39_8 v39_9 v39_10) (q93_X11_offer_0_tTx n I A J t x1 x2 x3 x4 x5 A39 v39_8 v39_9 v39_10)
def lb_X11_offer_0_tTx_39 (n : Nat) (I : Nat → Nat → Int32) (A : Nat → Nat → Int32) (J : Nat → Nat → Int64) (t : Bool × Bool) (x1 : Int32) (x2 : Int32) (x3 : Int32) (x4 : Int32) (x5 : Int32) : Nat → (Nat → Nat → Int32) → (Int32) → (Int32) → (Int32) → Prop
  | 0, _, _, _, _ => False
  | f + 1, A39, v39_8, v39_9, v39_10 => (¬ 6 ≤ v39_10 → pb_X11_strengthBy_0 n I A39 J (true, t.2) x2 v39_10 (q8_X11_offer_0_tTx n I A J t x1 x2 x3 x4 x5) x3 (q27_X11_offer_0_tTx n I A J t x1 x2 x3 x4 x5) ∧ (¬ (q58_X11_offer_0_tTx n I A J t x1 x2 x3 x4 x5 A39 v39_8 v39_9 v39_10) ≤ v39_8 → pb_X11_firstYield_0_tTx n I A39 J (true, t.2) x2 v39_10 (q8_X11_offer_0_tTx n I A J t x1 x2 x3 x4 x5) x3 x4 x5) ∧ lb_X11_offer_0_tTx_39 n I A J t x1 x2 x3 x4 x5 f (qAm64_X11_offer_0_tTx n I A J t x1 x2 x3 x4 x5 A39 v39_8 v39_9 v39_10) (ql8m64_X11_offer_0_tTx n I A J t x1 x2 x3 x4 x5 A39 v39_8 v39_9 v39_10) (ql9m64_X11_offer_0_tTx n I A J t x1 x2 x3 x4 x5 A39 v39_8 v39_9 v39_10) (q93_X11_offer_0_tTx n I A J t x1 x2 x3 x4 x5 A39 v39_8 v39_9 v39_10))
def qAw39_X11_offer_0_tTx (n : Nat) (I : Nat → Nat → Int32) (A : Nat → Nat → Int32) (J : Nat → Nat → Int64) (t : Bool × Bool) (x1 : Int32) (x2 : Int32) (x3 : Int32) (x4 : Int32) (x5 : Int32) : Nat → Nat → Int32 := (lp_X11_offer_0_tTx_39 n I A J t x1 x2 x3 x4 x5 n A 9 (-1) 0).1
def q8w39_X11_offer_0_tTx (n : Nat) (I : Nat → Nat → Int32) (A : Nat → Nat → Int32) (J : Nat → Nat → Int64) (t : Bool × Bool) (x1 : Int32) (x2 : Int32) (x3 : Int32) (x4 : Int32) (x5 : Int32) : Int32 := (lp_X11_offer_0_tTx_39 n I A J t x1 x2 x3 x4 x5 n A 9 (-1) 0).2.1
def q9w39_X11_offer_0_tTx (n : Nat) (I : Nat → Nat → Int32) (A : Nat → Nat → Int32) (J : Nat → Nat → Int64) (t : Bool × Bool) (x1 : Int32) (x2 : Int32) (x3 : Int32) (x4 : Int32) (x5 : Int32) : Int32 := (lp_X11_offer_0_tTx_39 n I A J t x1 x2 x3 x4 x5 n A 9 (-1) 0).2.2.1
def q10w39_X11_offer_0_tTx (n : Nat) (I : Nat → Nat → Int32) (A : Nat → Nat → Int32) (J : Nat → Nat → Int64) (t : Bool × Bool) (x1 : Int32) (x2 : Int32) (x3 : Int32) (x4 : Int32) (x5 : Int32) : Int32 := (lp_X11_offer_0_tTx_39 n I A J t x1 x2 x3 x4 x5 n A 9 (-1) 0).2.2.2
def qIm102_X11_offer_0_tTx (n : Nat) (I : Nat → Nat → Int32) (A : Nat → Nat → Int32) (J : Nat → Nat → Int64) (t : Bool × Bool) (x1 : Int32) (x2 : Int32) (x3 : Int32) (x4 : Int32) (x5 : Int32) : Nat → Nat → Int32 := if (q9w39_X11_offer_0_tTx n I A J t x1 x2 x3 x4 x5) = (-1) then I else (pI_X3_offer_46 n I (qAw39_X11_offer_0_tTx n I A J t x1 x2 x3 x4 x5) J (true, t.2) x1 x2 (q9w39_X11_offer_0_tTx n I A J t x1 x2 x3 x4 x5) (q8w39_X11_offer_0_tTx n I A J t x1 x2 x3 x4 x5) (px_X9_listenersOf_1 n I (qAw39_X11_offer_0_tTx n I A J t x1 x2 x3 x4 x5) J (true, t.2) (q8_X11_offer_0_tTx n I A J t x1 x2 x3 x4 x5)))
def qAm102_X11_offer_0_tTx (n : Nat) (I : Nat → Nat → Int32) (A : Nat → Nat → Int32) (J : Nat → Nat → Int64) (t : Bool × Bool) (x1 : Int32) (x2 : Int32) (x3 : Int32) (x4 : Int32) (x5 : Int32) : Nat → Nat → Int32 := if (q9w39_X11_offer_0_tTx n I A J t x1 x2 x3 x4 x5) = (-1) then (qAw39_X11_offer_0_tTx n I A J t x1 x2 x3 x4 x5) else (pA_X3_offer_46 n I (qAw39_X11_offer_0_tTx n I A J t x1 x2 x3 x4 x5) J (true, t.2) x1 x2 (q9w39_X11_offer_0_tTx n I A J t x1 x2 x3 x4 x5) (q8w39_X11_offer_0_tTx n I A J t x1 x2 x3 x4 x5) (px_X9_listenersOf_1 n I (qAw39_X11_offer_0_tTx n I A J t x1 x2 x3 x4 x5) J (true, t.2) (q8_X11_offer_0_tTx n I A J t x1 x2 x3 x4 x5)))
def pb_X11_offer_0_tTx (n : Nat) (I : Nat → Nat → Int32) (A : Nat → Nat → Int32) (J : Nat → Nat → Int64) (t : Bool × Bool) (x1 : Int32) (x2 : Int32) (x3 : Int32) (x4 : Int32) (x5 : Int32) : Prop := pb_X6_landOf_12 n I A J (true, t.2) x1 ∧ pb_X2_siteOf_9 n I A J (true, t.2) x2 ∧ pb_X11_firstCell_0 n I A J (true, t.2) (px_X2_siteOf_9 n I A J (true, t.2) x2) (q8_X11_offer_0_tTx n I A J t x1 x2 x3 x4 x5) x3 x4 ∧ lb_X11_offer_0_tTx_39 n I A J t x1 x2 x3 x4 x5 n A 9 (-1) 0 ∧ (¬ (q9w39_X11_offer_0_tTx n I A J t x1 x2 x3 x4 x5) = (-1) → pb_X9_listenersOf_1 n I (qAw39_X11_offer_0_tTx n I A J t x1 x2 x3 x4 x5) J (true, t.2) (q8_X11_offer_0_tTx n I A J t x1 x2 x3 x4 x5) ∧ pb_X3_offer_46 n I (qAw39_X11_offer_0_tTx n I A J t x1 x2 x3 x4 x5) J (true, t.2) x1 x2 (q9w39_X11_offer_0_tTx n I A J t x1 x2 x3 x4 x5) (q8w39_X11_offer_0_tTx n I A J t x1 x2 x3 x4 x5) (px_X9_listenersOf_1 n I (qAw39_X11_offer_0_tTx n I A J t x1 x2 x3 x4 x5) J (true, t.2) (q8_X11_offer_0_tTx n I A J t x1 x2 x3 x4 x5)))
def pI_X11_offer_0_tTx (n : Nat) (I : Nat → Nat → Int32) (A : Nat → Nat → Int32) (J : Nat → Nat → Int64) (t : Bool × Bool) (x1 : Int32) (x2 : Int32) (x3 : Int32) (x4 : Int32) (x5 : Int32) : Nat → Nat → Int32 := (qIm102_X11_offer_0_tTx n I A J t x1 x2 x3 x4 x5)
def pA_X11_offer_0_tTx (n : Nat) (I : Nat → Nat → Int32) (A : Nat → Nat → Int32) (J : Nat → Nat → Int64) (t : Bool × Bool) (x1 : Int32) (x2 : Int32) (x3 : Int32) (x4 : Int32) (x5 : Int32) : Nat → Nat → Int32 := (qAm102_X11_offer_0_tTx n I A J t x1 x2 x3 x4 x5)
set_option maxRecDepth 100000 in
set_option maxHeartbeats 4000000 in
theorem lt_X11_offer_0_tTx_39 (g : cw_G) (n : Nat) (I : Nat → Nat → Int32) (A : Nat → Nat → Int32) (J : Nat → Nat → Int64) (t : Bool × Bool) (x1 : Int32) (x2 : Int32) (x3 : Int32) (x4 : Int32) (x5 : Int32) {Q : Option Value → cw_H → Prop} : ∀ (f : Nat) (A39 : Nat → Nat → Int32) (v39_8 : Int32) (v39_9 : Int32) (v39_10 : Int32) (w0 : Nat → Nat → Int32) (w1 : Int32) (w2 : Int32) (w3 : Int32), lb_X11_offer_0_tTx_39 n I A J t x1 x2 x3 x4 x5 f A39 v39_8 v39_9 v39_10 → (lp_X11_offer_0_tTx_39 n I A J t x1 x2 x3 x4 x5 f A39 v39_8 v39_9 v39_10).1 = w0 → (lp_X11_offer_0_tTx_39 n I A J t x1 x2 x3 x4 x5 f A39 v39_8 v39_9 v39_10).2.1 = w1 → (lp_X11_offer_0_tTx_39 n I A J t x1 x2 x3 x4 x5 f A39 v39_8 v39_9 v39_10).2.2.1 = w2 → (lp_X11_offer_0_tTx_39 n I A J t x1 x2 x3 x4 x5 f A39 v39_8 v39_9 v39_10).2.2.2 = w3 → Ev g mX11_offer 0 0 99 [some (.ref (cw_z g + 0)), some (.int x1), some (.int x2), some (.int x3), some (.int x4), some (.int x5), some (.int (q8_X11_offer_0_tTx n I A J t x1 x2 x3 x4 x5)), some (.int (q27_X11_offer_0_tTx n I A J t x1 x2 x3 x4 x5)), some (.int w1), some (.int w2), some (.int w3), none] [] (hp g I w0 J (true, t.2)) Q → Ev g mX11_offer 0 0 39 [some (.ref (cw_z g + 0)), some (.int x1), some (.int x2), some (.int x3), some (.int x4), some (.int x5), some (.int (q8_X11_offer_0_tTx n I A J t x1 x2 x3 x4 x5)), some (.int (q27_X11_offer_0_tTx n I A J t x1 x2 x3 x4 x5)), some (.int v39_8), some (.int v39_9), some (.int v39_10), none] [] (hp g I A39 J (true, t.2)) Q := by
  intro f
  induction f with
  | zero =>
    intro A39 v39_8 v39_9 v39_10 w0 w1 w2 w3 hb
    exact hb.elim
  | succ f ih =>
    intro A39 v39_8 v39_9 v39_10 w0 w1 w2 w3 hb h0 h1 h2 h3 hE
    rw [lb_X11_offer_0_tTx_39] at hb
    rw [lp_X11_offer_0_tTx_39] at h0 h1 h2 h3
    refine ev_iload (pc := 39) dX11_offer_39 rfl ?_
    refine ev_bipush (pc := 41) (v := 6) dX11_offer_41 (by decide) ?_
    have hF_43 := hb
    refine ev_icmp_ge (pc := 43) (tgt := 99) dX11_offer_43 (by decide) (fun c_43 => ?_) (fun c_43 => ?_)
    · try simp only [if_pos c_43] at h0
      try simp only [if_pos c_43] at h1
      try simp only [if_pos c_43] at h2
      try simp only [if_pos c_43] at h3
      subst h0
      subst h1
      subst h2
      subst h3
      exact ev_loc hE cw_le0
    · have hb := hF_43 c_43
      try simp only [if_neg c_43] at h0
      try simp only [if_neg c_43] at h1
      try simp only [if_neg c_43] at h2
      try simp only [if_neg c_43] at h3
      refine ev_aload_n (pc := 46) dX11_offer_46 rfl ?_
      refine ev_iload_n (pc := 47) dX11_offer_47 rfl ?_
      refine ev_iload (pc := 48) dX11_offer_48 rfl ?_
      refine ev_iload (pc := 50) dX11_offer_50 rfl ?_
      refine ev_iload_n (pc := 52) dX11_offer_52 rfl ?_
      refine ev_iload (pc := 53) dX11_offer_53 rfl ?_
      refine ev_Vi (pc := 55) dX11_offer_55 lk_X11_201 cd_X11_strengthBy ar_X11_strengthBy ⟨by decide, rfl, rfl⟩ (cv_X11_strengthBy_0 g n I A39 J (true, t.2) x2 v39_10 (q8_X11_offer_0_tTx n I A J t x1 x2 x3 x4 x5) x3 (q27_X11_offer_0_tTx n I A J t x1 x2 x3 x4 x5) hb.1) (show 0 < 120 by decide) rfl rfl rfl rfl (Nat.le_of_ble_eq_true rfl) ⟨by decide, by decide⟩ ?_
      replace hb := hb.2
      refine ev_is (y := (q58_X11_offer_0_tTx n I A J t x1 x2 x3 x4 x5 A39 v39_8 v39_9 v39_10)) rfl ?_
      refine ev_istore_11 (pc := 58) dX11_offer_58 (by decide) rfl ?_
      refine ev_iload (pc := 60) dX11_offer_60 rfl ?_
      refine ev_iload (pc := 62) dX11_offer_62 rfl ?_
      obtain ⟨hF_64, hb⟩ := hb
      refine ev_cut (pj := 93) (Lj := [some (.ref (cw_z g + 0)), some (.int x1), some (.int x2), some (.int x3), some (.int x4), some (.int x5), some (.int (q8_X11_offer_0_tTx n I A J t x1 x2 x3 x4 x5)), some (.int (q27_X11_offer_0_tTx n I A J t x1 x2 x3 x4 x5)), some (.int (ql8m64_X11_offer_0_tTx n I A J t x1 x2 x3 x4 x5 A39 v39_8 v39_9 v39_10)), some (.int (ql9m64_X11_offer_0_tTx n I A J t x1 x2 x3 x4 x5 A39 v39_8 v39_9 v39_10)), some (.int v39_10), some (.int (q58_X11_offer_0_tTx n I A J t x1 x2 x3 x4 x5 A39 v39_8 v39_9 v39_10))]) (stj := []) (σj := hp g I (qAm64_X11_offer_0_tTx n I A J t x1 x2 x3 x4 x5 A39 v39_8 v39_9 v39_10) J (true, t.2)) ?_ (fun hJ_64 => ?_)
      rotate_left
      · refine ev_icmp_le (pc := 64) (tgt := 93) dX11_offer_64 (by decide) (fun c_64 => ?_) (fun c_64 => ?_)
        · simp only [qAm64_X11_offer_0_tTx, ql8m64_X11_offer_0_tTx, ql9m64_X11_offer_0_tTx, if_pos c_64] at hJ_64
          exact ev_loc hJ_64 cw_le0
        · have hb := hF_64 c_64
          refine ev_aload_n (pc := 67) dX11_offer_67 rfl ?_
          refine ev_iload_n (pc := 68) dX11_offer_68 rfl ?_
          refine ev_iload (pc := 69) dX11_offer_69 rfl ?_
          refine ev_iload (pc := 71) dX11_offer_71 rfl ?_
          refine ev_iload_n (pc := 73) dX11_offer_73 rfl ?_
          refine ev_iload (pc := 74) dX11_offer_74 rfl ?_
          refine ev_iload (pc := 76) dX11_offer_76 rfl ?_
          refine ev_Vi (pc := 78) dX11_offer_78 lk_X11_204 cd_X11_firstYield ar_X11_firstYield ⟨by decide, rfl, rfl⟩ (cv_X11_firstYield_0_tTx g n I A39 J (true, t.2) x2 v39_10 (q8_X11_offer_0_tTx n I A J t x1 x2 x3 x4 x5) x3 x4 x5 hb) (show 0 < 120 by decide) rfl rfl rfl rfl (Nat.le_of_ble_eq_true rfl) ⟨by decide, by decide⟩ ?_
          refine ev_iconst (pc := 81) (v := (-1)) dX11_offer_81 (by decide) ?_
          refine ev_cut (pj := 93) (Lj := [some (.ref (cw_z g + 0)), some (.int x1), some (.int x2), some (.int x3), some (.int x4), some (.int x5), some (.int (q8_X11_offer_0_tTx n I A J t x1 x2 x3 x4 x5)), some (.int (q27_X11_offer_0_tTx n I A J t x1 x2 x3 x4 x5)), some (.int (ql8m82_X11_offer_0_tTx n I A J t x1 x2 x3 x4 x5 A39 v39_8 v39_9 v39_10)), some (.int (ql9m82_X11_offer_0_tTx n I A J t x1 x2 x3 x4 x5 A39 v39_8 v39_9 v39_10)), some (.int v39_10), some (.int (q58_X11_offer_0_tTx n I A J t x1 x2 x3 x4 x5 A39 v39_8 v39_9 v39_10))]) (stj := []) (σj := hp g I (pA_X11_firstYield_0_tTx n I A39 J (true, t.2) x2 v39_10 (q8_X11_offer_0_tTx n I A J t x1 x2 x3 x4 x5) x3 x4 x5) J (true, t.2)) ?_ (fun hJ_82 => ?_)
          rotate_left
          · refine ev_icmp_ne (pc := 82) (tgt := 93) dX11_offer_82 (by decide) (fun c_82 => ?_) (fun c_82 => ?_)
            · simp only [ql8m82_X11_offer_0_tTx, ql9m82_X11_offer_0_tTx, if_neg c_82] at hJ_82
              exact ev_loc hJ_82 cw_le0
            · refine ev_iload (pc := 85) dX11_offer_85 rfl ?_
              refine ev_istore_8 (pc := 87) dX11_offer_87 (by decide) rfl ?_
              refine ev_iload (pc := 89) dX11_offer_89 rfl ?_
              refine ev_istore_9 (pc := 91) dX11_offer_91 (by decide) rfl ?_
              simp only [ql8m82_X11_offer_0_tTx, ql9m82_X11_offer_0_tTx, if_pos c_82] at hJ_82
              exact ev_loc hJ_82 cw_le0
          simp only [qAm64_X11_offer_0_tTx, ql8m64_X11_offer_0_tTx, ql9m64_X11_offer_0_tTx, if_neg c_64] at hJ_64
          exact ev_loc hJ_64 cw_le0
      refine ev_iinc_10 (pc := 93) (v := (q93_X11_offer_0_tTx n I A J t x1 x2 x3 x4 x5 A39 v39_8 v39_9 v39_10)) dX11_offer_93 (by decide) rfl rfl ?_
      refine ev_goto (pc := 96) (tgt := 39) dX11_offer_96 (by decide) ?_
      exact ev_loc (ih (qAm64_X11_offer_0_tTx n I A J t x1 x2 x3 x4 x5 A39 v39_8 v39_9 v39_10) (ql8m64_X11_offer_0_tTx n I A J t x1 x2 x3 x4 x5 A39 v39_8 v39_9 v39_10) (ql9m64_X11_offer_0_tTx n I A J t x1 x2 x3 x4 x5 A39 v39_8 v39_9 v39_10) (q93_X11_offer_0_tTx n I A J t x1 x2 x3 x4 x5 A39 v39_8 v39_9 v39_10) w0 w1 w2 w3 hb h0 h1 h2 h3 hE) (cw_leS (cw_leS (cw_leS (cw_leS (cw_leS (cw_leS (cw_leS (cw_leS (cw_leS (cw_leS (cw_leS (cw_leN cw_le0))))))))))))

set_option maxRecDepth 100000 in
set_option maxHeartbeats 4000000 in
theorem cv_X11_offer_0_tTx (g : cw_G) (n : Nat) (I : Nat → Nat → Int32) (A : Nat → Nat → Int32) (J : Nat → Nat → Int64) (t : Bool × Bool) (x1 : Int32) (x2 : Int32) (x3 : Int32) (x4 : Int32) (x5 : Int32) (hb : pb_X11_offer_0_tTx n I A J t x1 x2 x3 x4 x5) : Cd g mX11_offer [(.ref (cw_z g + 0)), (.int x1), (.int x2), (.int x3), (.int x4), (.int x5)] (hp g I A J (true, t.2)) none (hp g (pI_X11_offer_0_tTx n I A J t x1 x2 x3 x4 x5) (pA_X11_offer_0_tTx n I A J t x1 x2 x3 x4 x5) J (true, t.2)) := by
  unfold pb_X11_offer_0_tTx at hb
  unfold pI_X11_offer_0_tTx pA_X11_offer_0_tTx
  refine Cd.of rfl (Nat.le_of_ble_eq_true rfl) (ev_gen (fun Q hQ => ?_))
  refine ev_aload_n (pc := 0) dX11_offer_0 rfl ?_
  refine tv_getr (pc := 1) (d := 12) dX11_offer_1 fl_X11_31 (by decide) rfl rfl ?_
  refine ev_iload_n (pc := 4) dX11_offer_4 rfl ?_
  refine ev_Vi (pc := 5) dX11_offer_5 lk_X11_311 cd_X6_landOf ar_X6_landOf ⟨by decide, rfl, rfl⟩ (cv_X6_landOf_12 g n I A J (true, t.2) x1 hb.1) (show 12 < 120 by decide) rfl rfl rfl rfl (Nat.le_of_ble_eq_true rfl) ⟨by decide, by decide⟩ ?_
  replace hb := hb.2
  refine ev_is (y := (q8_X11_offer_0_tTx n I A J t x1 x2 x3 x4 x5)) rfl ?_
  refine ev_istore_6 (pc := 8) dX11_offer_8 (by decide) rfl ?_
  refine ev_aload_n (pc := 10) dX11_offer_10 rfl ?_
  refine ev_aload_n (pc := 11) dX11_offer_11 rfl ?_
  refine tv_getr (pc := 12) (d := 9) dX11_offer_12 fl_X11_24 (by decide) rfl rfl ?_
  refine ev_iload_n (pc := 15) dX11_offer_15 rfl ?_
  refine ev_Vi (pc := 16) dX11_offer_16 lk_X11_193 cd_X2_siteOf ar_X2_siteOf ⟨by decide, rfl, rfl⟩ (cv_X2_siteOf_9 g n I A J (true, t.2) x2 hb.1) (show 9 < 120 by decide) rfl rfl rfl rfl (Nat.le_of_ble_eq_true rfl) ⟨by decide, by decide⟩ ?_
  replace hb := hb.2
  refine ev_iload (pc := 19) dX11_offer_19 rfl ?_
  refine ev_iload_n (pc := 21) dX11_offer_21 rfl ?_
  refine ev_iload (pc := 22) dX11_offer_22 rfl ?_
  refine ev_Vi (pc := 24) dX11_offer_24 lk_X11_197 cd_X11_firstCell ar_X11_firstCell ⟨by decide, rfl, rfl⟩ (cv_X11_firstCell_0 g n I A J (true, t.2) (px_X2_siteOf_9 n I A J (true, t.2) x2) (q8_X11_offer_0_tTx n I A J t x1 x2 x3 x4 x5) x3 x4 hb.1) (show 0 < 120 by decide) rfl rfl rfl rfl (Nat.le_of_ble_eq_true rfl) ⟨by decide, by decide⟩ ?_
  replace hb := hb.2
  refine ev_is (y := (q27_X11_offer_0_tTx n I A J t x1 x2 x3 x4 x5)) rfl ?_
  refine ev_istore_7 (pc := 27) dX11_offer_27 (by decide) rfl ?_
  refine ev_bipush (pc := 29) (v := 9) dX11_offer_29 (by decide) ?_
  refine ev_istore_8 (pc := 31) dX11_offer_31 (by decide) rfl ?_
  refine ev_iconst (pc := 33) (v := (-1)) dX11_offer_33 (by decide) ?_
  refine ev_istore_9 (pc := 34) dX11_offer_34 (by decide) rfl ?_
  refine ev_iconst (pc := 36) (v := 0) dX11_offer_36 (by decide) ?_
  refine ev_istore_10 (pc := 37) dX11_offer_37 (by decide) rfl ?_
  refine lt_X11_offer_0_tTx_39 g n I A J t x1 x2 x3 x4 x5 n A 9 (-1) 0 (qAw39_X11_offer_0_tTx n I A J t x1 x2 x3 x4 x5) (q8w39_X11_offer_0_tTx n I A J t x1 x2 x3 x4 x5) (q9w39_X11_offer_0_tTx n I A J t x1 x2 x3 x4 x5) (q10w39_X11_offer_0_tTx n I A J t x1 x2 x3 x4 x5) hb.1 rfl rfl rfl rfl ?_
  replace hb := hb.2
  refine ev_iload (pc := 99) dX11_offer_99 rfl ?_
  refine ev_iconst (pc := 101) (v := (-1)) dX11_offer_101 (by decide) ?_
  have hF_102 := hb
  refine ev_cut (pj := 127) (Lj := [some (.ref (cw_z g + 0)), some (.int x1), some (.int x2), some (.int x3), some (.int x4), some (.int x5), some (.int (q8_X11_offer_0_tTx n I A J t x1 x2 x3 x4 x5)), some (.int (q27_X11_offer_0_tTx n I A J t x1 x2 x3 x4 x5)), some (.int (q8w39_X11_offer_0_tTx n I A J t x1 x2 x3 x4 x5)), some (.int (q9w39_X11_offer_0_tTx n I A J t x1 x2 x3 x4 x5)), some (.int (q10w39_X11_offer_0_tTx n I A J t x1 x2 x3 x4 x5)), none]) (stj := []) (σj := hp g (qIm102_X11_offer_0_tTx n I A J t x1 x2 x3 x4 x5) (qAm102_X11_offer_0_tTx n I A J t x1 x2 x3 x4 x5) J (true, t.2)) ?_ (fun hJ_102 => ?_)
  rotate_left
  · refine ev_icmp_eq (pc := 102) (tgt := 127) dX11_offer_102 (by decide) (fun c_102 => ?_) (fun c_102 => ?_)
    · simp only [qIm102_X11_offer_0_tTx, qAm102_X11_offer_0_tTx, if_pos c_102] at hJ_102
      exact ev_loc hJ_102 cw_le0
    · have hb := hF_102 c_102
      refine ev_aload_n (pc := 105) dX11_offer_105 rfl ?_
      refine tv_getr (pc := 106) (d := 46) dX11_offer_106 fl_X11_74 (by decide) rfl rfl ?_
      refine ev_iload_n (pc := 109) dX11_offer_109 rfl ?_
      refine ev_iload_n (pc := 110) dX11_offer_110 rfl ?_
      refine ev_iload (pc := 111) dX11_offer_111 rfl ?_
      refine ev_iload (pc := 113) dX11_offer_113 rfl ?_
      refine ev_aload_n (pc := 115) dX11_offer_115 rfl ?_
      refine tv_getr (pc := 116) (d := 1) dX11_offer_116 fl_X11_14 (by decide) rfl rfl ?_
      refine ev_iload (pc := 119) dX11_offer_119 rfl ?_
      refine ev_Vi (pc := 121) dX11_offer_121 lk_X11_322 cd_X9_listenersOf ar_X9_listenersOf ⟨by decide, rfl, rfl⟩ (cv_X9_listenersOf_1 g n I (qAw39_X11_offer_0_tTx n I A J t x1 x2 x3 x4 x5) J (true, t.2) (q8_X11_offer_0_tTx n I A J t x1 x2 x3 x4 x5) hb.1) (show 1 < 120 by decide) rfl rfl rfl rfl (Nat.le_of_ble_eq_true rfl) ⟨by decide, by decide⟩ ?_
      replace hb := hb.2
      refine ev_Vv (pc := 124) dX11_offer_124 lk_X11_325 cd_X3_offer ar_X3_offer ⟨by decide, rfl, rfl⟩ (cv_X3_offer_46 g n I (qAw39_X11_offer_0_tTx n I A J t x1 x2 x3 x4 x5) J (true, t.2) x1 x2 (q9w39_X11_offer_0_tTx n I A J t x1 x2 x3 x4 x5) (q8w39_X11_offer_0_tTx n I A J t x1 x2 x3 x4 x5) (px_X9_listenersOf_1 n I (qAw39_X11_offer_0_tTx n I A J t x1 x2 x3 x4 x5) J (true, t.2) (q8_X11_offer_0_tTx n I A J t x1 x2 x3 x4 x5)) hb) (show 46 < 120 by decide) rfl rfl rfl rfl (Nat.le_of_ble_eq_true rfl) ⟨by decide, by decide⟩ ?_
      simp only [qIm102_X11_offer_0_tTx, qAm102_X11_offer_0_tTx, if_neg c_102] at hJ_102
      exact ev_loc hJ_102 cw_le0
  exact ev_vret (pc := 127) dX11_offer_127 rfl (by decide) (by decide) (hQ _ _ ⟨rfl, rfl⟩)

def qIm66_X11_offerAll_0_tTx (n : Nat) (I : Nat → Nat → Int32) (A : Nat → Nat → Int32) (J : Nat → Nat → Int64) (t : Bool × Bool) (x1 : Int32) (x2 : Int32) (x3 : Int32) (I10 : Nat → Nat → Int32) (A10 : Nat → Nat → Int32) (v10_4 : Int32) (I25 : Nat → Nat → Int32) (A25 : Nat → Nat → Int32) (v25_5 : Int32) : Nat → Nat → Int32 := if (px_X11_isTurned_0 n I25 A25 J (true, t.2) v25_5 (px_X6_landOf_12 n I25 A25 J (true, t.2) v10_4) x2) = 0 then I25 else (pI_X11_offer_0_tTx n I25 A25 J (true, t.2) v10_4 v25_5 x1 x2 x3)
def qAm66_X11_offerAll_0_tTx (n : Nat) (I : Nat → Nat → Int32) (A : Nat → Nat → Int32) (J : Nat → Nat → Int64) (t : Bool × Bool) (x1 : Int32) (x2 : Int32) (x3 : Int32) (I10 : Nat → Nat → Int32) (A10 : Nat → Nat → Int32) (v10_4 : Int32) (I25 : Nat → Nat → Int32) (A25 : Nat → Nat → Int32) (v25_5 : Int32) : Nat → Nat → Int32 := if (px_X11_isTurned_0 n I25 A25 J (true, t.2) v25_5 (px_X6_landOf_12 n I25 A25 J (true, t.2) v10_4) x2) = 0 then A25 else (pA_X11_offer_0_tTx n I25 A25 J (true, t.2) v10_4 v25_5 x1 x2 x3)
def q80_X11_offerAll_0_tTx (n : Nat) (I : Nat → Nat → Int32) (A : Nat → Nat → Int32) (J : Nat → Nat → Int64) (t : Bool × Bool) (x1 : Int32) (x2 : Int32) (x3 : Int32) (I10 : Nat → Nat → Int32) (A10 : Nat → Nat → Int32) (v10_4 : Int32) (I25 : Nat → Nat → Int32) (A25 : Nat → Nat → Int32) (v25_5 : Int32) : Int32 := v25_5 + 1
def lp_X11_offerAll_0_tTx_25 (n : Nat) (I : Nat → Nat → Int32) (A : Nat → Nat → Int32) (J : Nat → Nat → Int64) (t : Bool × Bool) (x1 : Int32) (x2 : Int32) (x3 : Int32) (I10 : Nat → Nat → Int32) (A10 : Nat → Nat → Int32) (v10_4 : Int32) : Nat → (Nat → Nat → Int32) → (Nat → Nat → Int32) → (Int32) → (Nat → Nat → Int32) × (Nat → Nat → Int32) × Int32
  | 0, I25, A25, v25_5 => (I25, A25, v25_5)
  | f + 1, I25, A25, v25_5 => if (I25 9 2) ≤ v25_5 then (I25, A25, v25_5) else if (px_X6_isOn_12 n I25 A25 J (true, t.2) v10_4 x2) = 0 then (I25, A25, v25_5) else lp_X11_offerAll_0_tTx_25 n I A J t x1 x2 x3 I10 A10 v10_4 f (qIm66_X11_offerAll_0_tTx n I A J t x1 x2 x3 I10 A10 v10_4 I25 A25 v25_5) (qAm66_X11_offerAll_0_tTx n I A J t x1 x2 x3 I10 A10 v10_4 I25 A25 v25_5) (q80_X11_offerAll_0_tTx n I A J t x1 x2 x3 I10 A10 v10_4 I25 A25 v25_5)
def lb_X11_offerAll_0_tTx_25 (n : Nat) (I : Nat → Nat → Int32) (A : Nat → Nat → Int32) (J : Nat → Nat → Int64) (t : Bool × Bool) (x1 : Int32) (x2 : Int32) (x3 : Int32) (I10 : Nat → Nat → Int32) (A10 : Nat → Nat → Int32) (v10_4 : Int32) : Nat → (Nat → Nat → Int32) → (Nat → Nat → Int32) → (Int32) → Prop
  | 0, _, _, _ => False
  | f + 1, I25, A25, v25_5 => (¬ (I25 9 2) ≤ v25_5 → pb_X6_isOn_12 n I25 A25 J (true, t.2) v10_4 x2 ∧ (¬ (px_X6_isOn_12 n I25 A25 J (true, t.2) v10_4 x2) = 0 → pb_X6_landOf_12 n I25 A25 J (true, t.2) v10_4 ∧ pb_X11_isTurned_0 n I25 A25 J (true, t.2) v25_5 (px_X6_landOf_12 n I25 A25 J (true, t.2) v10_4) x2 ∧ (¬ (px_X11_isTurned_0 n I25 A25 J (true, t.2) v25_5 (px_X6_landOf_12 n I25 A25 J (true, t.2) v10_4) x2) = 0 → pb_X11_offer_0_tTx n I25 A25 J (true, t.2) v10_4 v25_5 x1 x2 x3) ∧ lb_X11_offerAll_0_tTx_25 n I A J t x1 x2 x3 I10 A10 v10_4 f (qIm66_X11_offerAll_0_tTx n I A J t x1 x2 x3 I10 A10 v10_4 I25 A25 v25_5) (qAm66_X11_offerAll_0_tTx n I A J t x1 x2 x3 I10 A10 v10_4 I25 A25 v25_5) (q80_X11_offerAll_0_tTx n I A J t x1 x2 x3 I10 A10 v10_4 I25 A25 v25_5)))
def qIw25_X11_offerAll_0_tTx (n : Nat) (I : Nat → Nat → Int32) (A : Nat → Nat → Int32) (J : Nat → Nat → Int64) (t : Bool × Bool) (x1 : Int32) (x2 : Int32) (x3 : Int32) (I10 : Nat → Nat → Int32) (A10 : Nat → Nat → Int32) (v10_4 : Int32) : Nat → Nat → Int32 := (lp_X11_offerAll_0_tTx_25 n I A J t x1 x2 x3 I10 A10 v10_4 n I10 A10 0).1
def qAw25_X11_offerAll_0_tTx (n : Nat) (I : Nat → Nat → Int32) (A : Nat → Nat → Int32) (J : Nat → Nat → Int64) (t : Bool × Bool) (x1 : Int32) (x2 : Int32) (x3 : Int32) (I10 : Nat → Nat → Int32) (A10 : Nat → Nat → Int32) (v10_4 : Int32) : Nat → Nat → Int32 := (lp_X11_offerAll_0_tTx_25 n I A J t x1 x2 x3 I10 A10 v10_4 n I10 A10 0).2.1
def q5w25_X11_offerAll_0_tTx (n : Nat) (I : Nat → Nat → Int32) (A : Nat → Nat → Int32) (J : Nat → Nat → Int64) (t : Bool × Bool) (x1 : Int32) (x2 : Int32) (x3 : Int32) (I10 : Nat → Nat → Int32) (A10 : Nat → Nat → Int32) (v10_4 : Int32) : Int32 := (lp_X11_offerAll_0_tTx_25 n I A J t x1 x2 x3 I10 A10 v10_4 n I10 A10 0).2.2
def q86_X11_offerAll_0_tTx (n : Nat) (I : Nat → Nat → Int32) (A : Nat → Nat → Int32) (J : Nat → Nat → Int64) (t : Bool × Bool) (x1 : Int32) (x2 : Int32) (x3 : Int32) (I10 : Nat → Nat → Int32) (A10 : Nat → Nat → Int32) (v10_4 : Int32) : Int32 := v10_4 + 1
def lp_X11_offerAll_0_tTx_10 (n : Nat) (I : Nat → Nat → Int32) (A : Nat → Nat → Int32) (J : Nat → Nat → Int64) (t : Bool × Bool) (x1 : Int32) (x2 : Int32) (x3 : Int32) : Nat → (Nat → Nat → Int32) → (Nat → Nat → Int32) → (Int32) → (Nat → Nat → Int32) × (Nat → Nat → Int32) × Int32
  | 0, I10, A10, v10_4 => (I10, A10, v10_4)
  | f + 1, I10, A10, v10_4 => if (I10 12 3) ≤ v10_4 then (I10, A10, v10_4) else lp_X11_offerAll_0_tTx_10 n I A J t x1 x2 x3 f (qIw25_X11_offerAll_0_tTx n I A J t x1 x2 x3 I10 A10 v10_4) (qAw25_X11_offerAll_0_tTx n I A J t x1 x2 x3 I10 A10 v10_4) (q86_X11_offerAll_0_tTx n I A J t x1 x2 x3 I10 A10 v10_4)
def lb_X11_offerAll_0_tTx_10 (n : Nat) (I : Nat → Nat → Int32) (A : Nat → Nat → Int32) (J : Nat → Nat → Int64) (t : Bool × Bool) (x1 : Int32) (x2 : Int32) (x3 : Int32) : Nat → (Nat → Nat → Int32) → (Nat → Nat → Int32) → (Int32) → Prop
  | 0, _, _, _ => False
  | f + 1, I10, A10, v10_4 => (¬ (I10 12 3) ≤ v10_4 → lb_X11_offerAll_0_tTx_25 n I A J t x1 x2 x3 I10 A10 v10_4 n I10 A10 0 ∧ lb_X11_offerAll_0_tTx_10 n I A J t x1 x2 x3 f (qIw25_X11_offerAll_0_tTx n I A J t x1 x2 x3 I10 A10 v10_4) (qAw25_X11_offerAll_0_tTx n I A J t x1 x2 x3 I10 A10 v10_4) (q86_X11_offerAll_0_tTx n I A J t x1 x2 x3 I10 A10 v10_4))
def qIw10_X11_offerAll_0_tTx (n : Nat) (I : Nat → Nat → Int32) (A : Nat → Nat → Int32) (J : Nat → Nat → Int64) (t : Bool × Bool) (x1 : Int32) (x2 : Int32) (x3 : Int32) : Nat → Nat → Int32 := (lp_X11_offerAll_0_tTx_10 n I A J t x1 x2 x3 n (pI_X3_renew_46 n I A J (true, t.2) ) (pA_X3_renew_46 n I A J (true, t.2) ) 0).1
def qAw10_X11_offerAll_0_tTx (n : Nat) (I : Nat → Nat → Int32) (A : Nat → Nat → Int32) (J : Nat → Nat → Int64) (t : Bool × Bool) (x1 : Int32) (x2 : Int32) (x3 : Int32) : Nat → Nat → Int32 := (lp_X11_offerAll_0_tTx_10 n I A J t x1 x2 x3 n (pI_X3_renew_46 n I A J (true, t.2) ) (pA_X3_renew_46 n I A J (true, t.2) ) 0).2.1
def q4w10_X11_offerAll_0_tTx (n : Nat) (I : Nat → Nat → Int32) (A : Nat → Nat → Int32) (J : Nat → Nat → Int64) (t : Bool × Bool) (x1 : Int32) (x2 : Int32) (x3 : Int32) : Int32 := (lp_X11_offerAll_0_tTx_10 n I A J t x1 x2 x3 n (pI_X3_renew_46 n I A J (true, t.2) ) (pA_X3_renew_46 n I A J (true, t.2) ) 0).2.2
def pb_X11_offerAll_0_tTx (n : Nat) (I : Nat → Nat → Int32) (A : Nat → Nat → Int32) (J : Nat → Nat → Int64) (t : Bool × Bool) (x1 : Int32) (x2 : Int32) (x3 : Int32) : Prop := pb_X3_renew_46 n I A J (true, t.2)  ∧ lb_X11_offerAll_0_tTx_10 n I A J t x1 x2 x3 n (pI_X3_renew_46 n I A J (true, t.2) ) (pA_X3_renew_46 n I A J (true, t.2) ) 0
def pI_X11_offerAll_0_tTx (n : Nat) (I : Nat → Nat → Int32) (A : Nat → Nat → Int32) (J : Nat → Nat → Int64) (t : Bool × Bool) (x1 : Int32) (x2 : Int32) (x3 : Int32) : Nat → Nat → Int32 := (qIw10_X11_offerAll_0_tTx n I A J t x1 x2 x3)
def pA_X11_offerAll_0_tTx (n : Nat) (I : Nat → Nat → Int32) (A : Nat → Nat → Int32) (J : Nat → Nat → Int64) (t : Bool × Bool) (x1 : Int32) (x2 : Int32) (x3 : Int32) : Nat → Nat → Int32 := (qAw10_X11_offerAll_0_tTx n I A J t x1 x2 x3)
set_option maxRecDepth 100000 in
set_option maxHeartbeats 4000000 in
theorem lt_X11_offerAll_0_tTx_25 (g : cw_G) (n : Nat) (I : Nat → Nat → Int32) (A : Nat → Nat → Int32) (J : Nat → Nat → Int64) (t : Bool × Bool) (x1 : Int32) (x2 : Int32) (x3 : Int32) (I10 : Nat → Nat → Int32) (A10 : Nat → Nat → Int32) (v10_4 : Int32) {Q : Option Value → cw_H → Prop} : ∀ (f : Nat) (I25 : Nat → Nat → Int32) (A25 : Nat → Nat → Int32) (v25_5 : Int32) (w0 : Nat → Nat → Int32) (w1 : Nat → Nat → Int32) (w2 : Int32), lb_X11_offerAll_0_tTx_25 n I A J t x1 x2 x3 I10 A10 v10_4 f I25 A25 v25_5 → (lp_X11_offerAll_0_tTx_25 n I A J t x1 x2 x3 I10 A10 v10_4 f I25 A25 v25_5).1 = w0 → (lp_X11_offerAll_0_tTx_25 n I A J t x1 x2 x3 I10 A10 v10_4 f I25 A25 v25_5).2.1 = w1 → (lp_X11_offerAll_0_tTx_25 n I A J t x1 x2 x3 I10 A10 v10_4 f I25 A25 v25_5).2.2 = w2 → Ev g mX11_offerAll 0 0 86 [some (.ref (cw_z g + 0)), some (.int x1), some (.int x2), some (.int x3), some (.int v10_4), some (.int w2)] [] (hp g w0 w1 J (true, t.2)) Q → Ev g mX11_offerAll 0 0 25 [some (.ref (cw_z g + 0)), some (.int x1), some (.int x2), some (.int x3), some (.int v10_4), some (.int v25_5)] [] (hp g I25 A25 J (true, t.2)) Q := by
  intro f
  induction f with
  | zero =>
    intro I25 A25 v25_5 w0 w1 w2 hb
    exact hb.elim
  | succ f ih =>
    intro I25 A25 v25_5 w0 w1 w2 hb h0 h1 h2 hE
    rw [lb_X11_offerAll_0_tTx_25] at hb
    rw [lp_X11_offerAll_0_tTx_25] at h0 h1 h2
    refine ev_iload (pc := 25) dX11_offerAll_25 rfl ?_
    refine ev_aload_n (pc := 27) dX11_offerAll_27 rfl ?_
    refine tv_getr (pc := 28) (d := 9) dX11_offerAll_28 fl_X11_24 (by decide) rfl rfl ?_
    refine tv_geti (pc := 31) dX11_offerAll_31 fl_X11_224 (by decide) rfl rfl ?_
    have hF_34 := hb
    refine ev_icmp_ge (pc := 34) (tgt := 86) dX11_offerAll_34 (by decide) (fun c_34 => ?_) (fun c_34 => ?_)
    · try simp only [if_pos c_34] at h0
      try simp only [if_pos c_34] at h1
      try simp only [if_pos c_34] at h2
      subst h0
      subst h1
      subst h2
      exact ev_loc hE cw_le0
    · have hb := hF_34 c_34
      try simp only [if_neg c_34] at h0
      try simp only [if_neg c_34] at h1
      try simp only [if_neg c_34] at h2
      refine ev_aload_n (pc := 37) dX11_offerAll_37 rfl ?_
      refine tv_getr (pc := 38) (d := 12) dX11_offerAll_38 fl_X11_31 (by decide) rfl rfl ?_
      refine ev_iload (pc := 41) dX11_offerAll_41 rfl ?_
      refine ev_iload_n (pc := 43) dX11_offerAll_43 rfl ?_
      refine ev_Vi (pc := 44) dX11_offerAll_44 lk_X11_308 cd_X6_isOn ar_X6_isOn ⟨by decide, rfl, rfl⟩ (cv_X6_isOn_12 g n I25 A25 J (true, t.2) v10_4 x2 hb.1) (show 12 < 120 by decide) rfl rfl rfl rfl (Nat.le_of_ble_eq_true rfl) ⟨by decide, by decide⟩ ?_
      replace hb := hb.2
      have hF_47 := hb
      refine ev_if_eq (pc := 47) (tgt := 86) dX11_offerAll_47 (by decide) (fun c_47 => ?_) (fun c_47 => ?_)
      · try simp only [if_pos c_47] at h0
        try simp only [if_pos c_47] at h1
        try simp only [if_pos c_47] at h2
        subst h0
        subst h1
        subst h2
        exact ev_loc hE cw_le0
      · have hb := hF_47 c_47
        try simp only [if_neg c_47] at h0
        try simp only [if_neg c_47] at h1
        try simp only [if_neg c_47] at h2
        refine ev_aload_n (pc := 50) dX11_offerAll_50 rfl ?_
        refine ev_iload (pc := 51) dX11_offerAll_51 rfl ?_
        refine ev_aload_n (pc := 53) dX11_offerAll_53 rfl ?_
        refine tv_getr (pc := 54) (d := 12) dX11_offerAll_54 fl_X11_31 (by decide) rfl rfl ?_
        refine ev_iload (pc := 57) dX11_offerAll_57 rfl ?_
        refine ev_Vi (pc := 59) dX11_offerAll_59 lk_X11_311 cd_X6_landOf ar_X6_landOf ⟨by decide, rfl, rfl⟩ (cv_X6_landOf_12 g n I25 A25 J (true, t.2) v10_4 hb.1) (show 12 < 120 by decide) rfl rfl rfl rfl (Nat.le_of_ble_eq_true rfl) ⟨by decide, by decide⟩ ?_
        replace hb := hb.2
        refine ev_iload_n (pc := 62) dX11_offerAll_62 rfl ?_
        refine ev_Vi (pc := 63) dX11_offerAll_63 lk_X11_312 cd_X11_isTurned ar_X11_isTurned ⟨by decide, rfl, rfl⟩ (cv_X11_isTurned_0 g n I25 A25 J (true, t.2) v25_5 (px_X6_landOf_12 n I25 A25 J (true, t.2) v10_4) x2 hb.1) (show 0 < 120 by decide) rfl rfl rfl rfl (Nat.le_of_ble_eq_true rfl) ⟨by decide, by decide⟩ ?_
        replace hb := hb.2
        obtain ⟨hF_66, hb⟩ := hb
        refine ev_cut (pj := 80) (Lj := [some (.ref (cw_z g + 0)), some (.int x1), some (.int x2), some (.int x3), some (.int v10_4), some (.int v25_5)]) (stj := []) (σj := hp g (qIm66_X11_offerAll_0_tTx n I A J t x1 x2 x3 I10 A10 v10_4 I25 A25 v25_5) (qAm66_X11_offerAll_0_tTx n I A J t x1 x2 x3 I10 A10 v10_4 I25 A25 v25_5) J (true, t.2)) ?_ (fun hJ_66 => ?_)
        rotate_left
        · refine ev_if_eq (pc := 66) (tgt := 80) dX11_offerAll_66 (by decide) (fun c_66 => ?_) (fun c_66 => ?_)
          · simp only [qIm66_X11_offerAll_0_tTx, qAm66_X11_offerAll_0_tTx, if_pos c_66] at hJ_66
            exact ev_loc hJ_66 cw_le0
          · have hb := hF_66 c_66
            refine ev_aload_n (pc := 69) dX11_offerAll_69 rfl ?_
            refine ev_iload (pc := 70) dX11_offerAll_70 rfl ?_
            refine ev_iload (pc := 72) dX11_offerAll_72 rfl ?_
            refine ev_iload_n (pc := 74) dX11_offerAll_74 rfl ?_
            refine ev_iload_n (pc := 75) dX11_offerAll_75 rfl ?_
            refine ev_iload_n (pc := 76) dX11_offerAll_76 rfl ?_
            refine ev_Vv (pc := 77) dX11_offerAll_77 lk_X11_315 cd_X11_offer ar_X11_offer ⟨by decide, rfl, rfl⟩ (cv_X11_offer_0_tTx g n I25 A25 J (true, t.2) v10_4 v25_5 x1 x2 x3 hb) (show 0 < 120 by decide) rfl rfl rfl rfl (Nat.le_of_ble_eq_true rfl) ⟨by decide, by decide⟩ ?_
            simp only [qIm66_X11_offerAll_0_tTx, qAm66_X11_offerAll_0_tTx, if_neg c_66] at hJ_66
            exact ev_loc hJ_66 cw_le0
        refine ev_iinc_5 (pc := 80) (v := (q80_X11_offerAll_0_tTx n I A J t x1 x2 x3 I10 A10 v10_4 I25 A25 v25_5)) dX11_offerAll_80 (by decide) rfl rfl ?_
        refine ev_goto (pc := 83) (tgt := 25) dX11_offerAll_83 (by decide) ?_
        exact ev_loc (ih (qIm66_X11_offerAll_0_tTx n I A J t x1 x2 x3 I10 A10 v10_4 I25 A25 v25_5) (qAm66_X11_offerAll_0_tTx n I A J t x1 x2 x3 I10 A10 v10_4 I25 A25 v25_5) (q80_X11_offerAll_0_tTx n I A J t x1 x2 x3 I10 A10 v10_4 I25 A25 v25_5) w0 w1 w2 hb h0 h1 h2 hE) cw_le0

set_option maxRecDepth 100000 in
set_option maxHeartbeats 4000000 in
theorem lt_X11_offerAll_0_tTx_10 (g : cw_G) (n : Nat) (I : Nat → Nat → Int32) (A : Nat → Nat → Int32) (J : Nat → Nat → Int64) (t : Bool × Bool) (x1 : Int32) (x2 : Int32) (x3 : Int32) {Q : Option Value → cw_H → Prop} : ∀ (f : Nat) (I10 : Nat → Nat → Int32) (A10 : Nat → Nat → Int32) (v10_4 : Int32) (w0 : Nat → Nat → Int32) (w1 : Nat → Nat → Int32) (w2 : Int32), lb_X11_offerAll_0_tTx_10 n I A J t x1 x2 x3 f I10 A10 v10_4 → (lp_X11_offerAll_0_tTx_10 n I A J t x1 x2 x3 f I10 A10 v10_4).1 = w0 → (lp_X11_offerAll_0_tTx_10 n I A J t x1 x2 x3 f I10 A10 v10_4).2.1 = w1 → (lp_X11_offerAll_0_tTx_10 n I A J t x1 x2 x3 f I10 A10 v10_4).2.2 = w2 → Ev g mX11_offerAll 0 0 92 [some (.ref (cw_z g + 0)), some (.int x1), some (.int x2), some (.int x3), some (.int w2), none] [] (hp g w0 w1 J (true, t.2)) Q → Ev g mX11_offerAll 0 0 10 [some (.ref (cw_z g + 0)), some (.int x1), some (.int x2), some (.int x3), some (.int v10_4), none] [] (hp g I10 A10 J (true, t.2)) Q := by
  intro f
  induction f with
  | zero =>
    intro I10 A10 v10_4 w0 w1 w2 hb
    exact hb.elim
  | succ f ih =>
    intro I10 A10 v10_4 w0 w1 w2 hb h0 h1 h2 hE
    rw [lb_X11_offerAll_0_tTx_10] at hb
    rw [lp_X11_offerAll_0_tTx_10] at h0 h1 h2
    refine ev_iload (pc := 10) dX11_offerAll_10 rfl ?_
    refine ev_aload_n (pc := 12) dX11_offerAll_12 rfl ?_
    refine tv_getr (pc := 13) (d := 12) dX11_offerAll_13 fl_X11_31 (by decide) rfl rfl ?_
    refine tv_geti (pc := 16) dX11_offerAll_16 fl_X11_216 (by decide) rfl rfl ?_
    have hF_19 := hb
    refine ev_icmp_ge (pc := 19) (tgt := 92) dX11_offerAll_19 (by decide) (fun c_19 => ?_) (fun c_19 => ?_)
    · try simp only [if_pos c_19] at h0
      try simp only [if_pos c_19] at h1
      try simp only [if_pos c_19] at h2
      subst h0
      subst h1
      subst h2
      exact ev_loc hE cw_le0
    · have hb := hF_19 c_19
      try simp only [if_neg c_19] at h0
      try simp only [if_neg c_19] at h1
      try simp only [if_neg c_19] at h2
      refine ev_iconst (pc := 22) (v := 0) dX11_offerAll_22 (by decide) ?_
      refine ev_istore_5 (pc := 23) dX11_offerAll_23 (by decide) rfl ?_
      refine lt_X11_offerAll_0_tTx_25 g n I A J t x1 x2 x3 I10 A10 v10_4 n I10 A10 0 (qIw25_X11_offerAll_0_tTx n I A J t x1 x2 x3 I10 A10 v10_4) (qAw25_X11_offerAll_0_tTx n I A J t x1 x2 x3 I10 A10 v10_4) (q5w25_X11_offerAll_0_tTx n I A J t x1 x2 x3 I10 A10 v10_4) hb.1 rfl rfl rfl ?_
      replace hb := hb.2
      refine ev_iinc_4 (pc := 86) (v := (q86_X11_offerAll_0_tTx n I A J t x1 x2 x3 I10 A10 v10_4)) dX11_offerAll_86 (by decide) rfl rfl ?_
      refine ev_goto (pc := 89) (tgt := 10) dX11_offerAll_89 (by decide) ?_
      exact ev_loc (ih (qIw25_X11_offerAll_0_tTx n I A J t x1 x2 x3 I10 A10 v10_4) (qAw25_X11_offerAll_0_tTx n I A J t x1 x2 x3 I10 A10 v10_4) (q86_X11_offerAll_0_tTx n I A J t x1 x2 x3 I10 A10 v10_4) w0 w1 w2 hb h0 h1 h2 hE) (cw_leS (cw_leS (cw_leS (cw_leS (cw_leS (cw_leN cw_le0))))))

set_option maxRecDepth 100000 in
set_option maxHeartbeats 4000000 in
theorem cv_X11_offerAll_0_tTx (g : cw_G) (n : Nat) (I : Nat → Nat → Int32) (A : Nat → Nat → Int32) (J : Nat → Nat → Int64) (t : Bool × Bool) (x1 : Int32) (x2 : Int32) (x3 : Int32) (hb : pb_X11_offerAll_0_tTx n I A J t x1 x2 x3) : Cd g mX11_offerAll [(.ref (cw_z g + 0)), (.int x1), (.int x2), (.int x3)] (hp g I A J (true, t.2)) none (hp g (pI_X11_offerAll_0_tTx n I A J t x1 x2 x3) (pA_X11_offerAll_0_tTx n I A J t x1 x2 x3) J (true, t.2)) := by
  unfold pb_X11_offerAll_0_tTx at hb
  unfold pI_X11_offerAll_0_tTx pA_X11_offerAll_0_tTx
  refine Cd.of rfl (Nat.le_of_ble_eq_true rfl) (ev_gen (fun Q hQ => ?_))
  refine ev_aload_n (pc := 0) dX11_offerAll_0 rfl ?_
  refine tv_getr (pc := 1) (d := 46) dX11_offerAll_1 fl_X11_74 (by decide) rfl rfl ?_
  refine ev_Vv (pc := 4) dX11_offerAll_4 lk_X11_307 cd_X3_renew ar_X3_renew ⟨by decide, rfl, rfl⟩ (cv_X3_renew_46 g n I A J (true, t.2)  hb.1) (show 46 < 120 by decide) rfl rfl rfl rfl (Nat.le_of_ble_eq_true rfl) ⟨by decide, by decide⟩ ?_
  replace hb := hb.2
  refine ev_iconst (pc := 7) (v := 0) dX11_offerAll_7 (by decide) ?_
  refine ev_istore_4 (pc := 8) dX11_offerAll_8 (by decide) rfl ?_
  refine lt_X11_offerAll_0_tTx_10 g n I A J t x1 x2 x3 n (pI_X3_renew_46 n I A J (true, t.2) ) (pA_X3_renew_46 n I A J (true, t.2) ) 0 (qIw10_X11_offerAll_0_tTx n I A J t x1 x2 x3) (qAw10_X11_offerAll_0_tTx n I A J t x1 x2 x3) (q4w10_X11_offerAll_0_tTx n I A J t x1 x2 x3) hb rfl rfl rfl ?_
  exact ev_vret (pc := 92) dX11_offerAll_92 rfl (by decide) (by decide) (hQ _ _ ⟨rfl, rfl⟩)

def q90_X11_schedule_0_tTx (n : Nat) (I : Nat → Nat → Int32) (A : Nat → Nat → Int32) (J : Nat → Nat → Int64) (t : Bool × Bool) (x1 : Int32) (x2 : Int32) (I44 : Nat → Nat → Int32) (A44 : Nat → Nat → Int32) (v44_3 : Int32) (v44_4 : Int32) : Int32 := (v44_3 + (px_X5_listenersIn_53 n (pI_X11_offerAll_0_tTx n I44 A44 J (true, t.2) x1 v44_4 x2) (pA_X11_settle_0 n (pI_X11_offerAll_0_tTx n I44 A44 J (true, t.2) x1 v44_4 x2) (pA_X3_solve_46 n (pI_X11_offerAll_0_tTx n I44 A44 J (true, t.2) x1 v44_4 x2) (pA_X11_offerAll_0_tTx n I44 A44 J (true, t.2) x1 v44_4 x2) J (true, t.2) ((pI_X11_offerAll_0_tTx n I44 A44 J (true, t.2) x1 v44_4 x2) 9 2)) J (true, t.2) v44_4) J (true, t.2) v44_4))
def q91_X11_schedule_0_tTx (n : Nat) (I : Nat → Nat → Int32) (A : Nat → Nat → Int32) (J : Nat → Nat → Int64) (t : Bool × Bool) (x1 : Int32) (x2 : Int32) (I44 : Nat → Nat → Int32) (A44 : Nat → Nat → Int32) (v44_3 : Int32) (v44_4 : Int32) : Int32 := v44_4 + 1
def lp_X11_schedule_0_tTx_44 (n : Nat) (I : Nat → Nat → Int32) (A : Nat → Nat → Int32) (J : Nat → Nat → Int64) (t : Bool × Bool) (x1 : Int32) (x2 : Int32) : Nat → (Nat → Nat → Int32) → (Nat → Nat → Int32) → (Int32) → (Int32) → (Nat → Nat → Int32) × (Nat → Nat → Int32) × Int32 × Int32
  | 0, I44, A44, v44_3, v44_4 => (I44, A44, v44_3, v44_4)
  | f + 1, I44, A44, v44_3, v44_4 => if 24 ≤ v44_4 then (I44, A44, v44_3, v44_4) else lp_X11_schedule_0_tTx_44 n I A J t x1 x2 f (pI_X11_offerAll_0_tTx n I44 A44 J (true, t.2) x1 v44_4 x2) (pA_X11_settle_0 n (pI_X11_offerAll_0_tTx n I44 A44 J (true, t.2) x1 v44_4 x2) (pA_X3_solve_46 n (pI_X11_offerAll_0_tTx n I44 A44 J (true, t.2) x1 v44_4 x2) (pA_X11_offerAll_0_tTx n I44 A44 J (true, t.2) x1 v44_4 x2) J (true, t.2) ((pI_X11_offerAll_0_tTx n I44 A44 J (true, t.2) x1 v44_4 x2) 9 2)) J (true, t.2) v44_4) (q90_X11_schedule_0_tTx n I A J t x1 x2 I44 A44 v44_3 v44_4) (q91_X11_schedule_0_tTx n I A J t x1 x2 I44 A44 v44_3 v44_4)
def lb_X11_schedule_0_tTx_44 (n : Nat) (I : Nat → Nat → Int32) (A : Nat → Nat → Int32) (J : Nat → Nat → Int64) (t : Bool × Bool) (x1 : Int32) (x2 : Int32) : Nat → (Nat → Nat → Int32) → (Nat → Nat → Int32) → (Int32) → (Int32) → Prop
  | 0, _, _, _, _ => False
  | f + 1, I44, A44, v44_3, v44_4 => (¬ 24 ≤ v44_4 → pb_X11_offerAll_0_tTx n I44 A44 J (true, t.2) x1 v44_4 x2 ∧ pb_X3_solve_46 n (pI_X11_offerAll_0_tTx n I44 A44 J (true, t.2) x1 v44_4 x2) (pA_X11_offerAll_0_tTx n I44 A44 J (true, t.2) x1 v44_4 x2) J (true, t.2) ((pI_X11_offerAll_0_tTx n I44 A44 J (true, t.2) x1 v44_4 x2) 9 2) ∧ pb_X11_settle_0 n (pI_X11_offerAll_0_tTx n I44 A44 J (true, t.2) x1 v44_4 x2) (pA_X3_solve_46 n (pI_X11_offerAll_0_tTx n I44 A44 J (true, t.2) x1 v44_4 x2) (pA_X11_offerAll_0_tTx n I44 A44 J (true, t.2) x1 v44_4 x2) J (true, t.2) ((pI_X11_offerAll_0_tTx n I44 A44 J (true, t.2) x1 v44_4 x2) 9 2)) J (true, t.2) v44_4 ∧ pb_X5_listenersIn_53 n (pI_X11_offerAll_0_tTx n I44 A44 J (true, t.2) x1 v44_4 x2) (pA_X11_settle_0 n (pI_X11_offerAll_0_tTx n I44 A44 J (true, t.2) x1 v44_4 x2) (pA_X3_solve_46 n (pI_X11_offerAll_0_tTx n I44 A44 J (true, t.2) x1 v44_4 x2) (pA_X11_offerAll_0_tTx n I44 A44 J (true, t.2) x1 v44_4 x2) J (true, t.2) ((pI_X11_offerAll_0_tTx n I44 A44 J (true, t.2) x1 v44_4 x2) 9 2)) J (true, t.2) v44_4) J (true, t.2) v44_4 ∧ lb_X11_schedule_0_tTx_44 n I A J t x1 x2 f (pI_X11_offerAll_0_tTx n I44 A44 J (true, t.2) x1 v44_4 x2) (pA_X11_settle_0 n (pI_X11_offerAll_0_tTx n I44 A44 J (true, t.2) x1 v44_4 x2) (pA_X3_solve_46 n (pI_X11_offerAll_0_tTx n I44 A44 J (true, t.2) x1 v44_4 x2) (pA_X11_offerAll_0_tTx n I44 A44 J (true, t.2) x1 v44_4 x2) J (true, t.2) ((pI_X11_offerAll_0_tTx n I44 A44 J (true, t.2) x1 v44_4 x2) 9 2)) J (true, t.2) v44_4) (q90_X11_schedule_0_tTx n I A J t x1 x2 I44 A44 v44_3 v44_4) (q91_X11_schedule_0_tTx n I A J t x1 x2 I44 A44 v44_3 v44_4))
def qIw44_X11_schedule_0_tTx (n : Nat) (I : Nat → Nat → Int32) (A : Nat → Nat → Int32) (J : Nat → Nat → Int64) (t : Bool × Bool) (x1 : Int32) (x2 : Int32) : Nat → Nat → Int32 := (lp_X11_schedule_0_tTx_44 n I A J t x1 x2 n (pI_X5_renew_53 n I (pA_X11_learn_0 n I A J (true, t.2) x2) J (true, t.2) (I 12 3)) (pA_X5_renew_53 n I (pA_X11_learn_0 n I A J (true, t.2) x2) J (true, t.2) (I 12 3)) 0 0).1
def qAw44_X11_schedule_0_tTx (n : Nat) (I : Nat → Nat → Int32) (A : Nat → Nat → Int32) (J : Nat → Nat → Int64) (t : Bool × Bool) (x1 : Int32) (x2 : Int32) : Nat → Nat → Int32 := (lp_X11_schedule_0_tTx_44 n I A J t x1 x2 n (pI_X5_renew_53 n I (pA_X11_learn_0 n I A J (true, t.2) x2) J (true, t.2) (I 12 3)) (pA_X5_renew_53 n I (pA_X11_learn_0 n I A J (true, t.2) x2) J (true, t.2) (I 12 3)) 0 0).2.1
def q3w44_X11_schedule_0_tTx (n : Nat) (I : Nat → Nat → Int32) (A : Nat → Nat → Int32) (J : Nat → Nat → Int64) (t : Bool × Bool) (x1 : Int32) (x2 : Int32) : Int32 := (lp_X11_schedule_0_tTx_44 n I A J t x1 x2 n (pI_X5_renew_53 n I (pA_X11_learn_0 n I A J (true, t.2) x2) J (true, t.2) (I 12 3)) (pA_X5_renew_53 n I (pA_X11_learn_0 n I A J (true, t.2) x2) J (true, t.2) (I 12 3)) 0 0).2.2.1
def q4w44_X11_schedule_0_tTx (n : Nat) (I : Nat → Nat → Int32) (A : Nat → Nat → Int32) (J : Nat → Nat → Int64) (t : Bool × Bool) (x1 : Int32) (x2 : Int32) : Int32 := (lp_X11_schedule_0_tTx_44 n I A J t x1 x2 n (pI_X5_renew_53 n I (pA_X11_learn_0 n I A J (true, t.2) x2) J (true, t.2) (I 12 3)) (pA_X5_renew_53 n I (pA_X11_learn_0 n I A J (true, t.2) x2) J (true, t.2) (I 12 3)) 0 0).2.2.2
def pb_X11_schedule_0_tTx (n : Nat) (I : Nat → Nat → Int32) (A : Nat → Nat → Int32) (J : Nat → Nat → Int64) (t : Bool × Bool) (x1 : Int32) (x2 : Int32) : Prop := (¬ (px_X11_isDay n I A J (true, t.2) x1) = 0 → (¬ (px_X1_canKnow_19 n I A J (true, t.2) x2) = 0 → pb_X11_learn_0 n I A J (true, t.2) x2 ∧ pb_X5_renew_53 n I (pA_X11_learn_0 n I A J (true, t.2) x2) J (true, t.2) (I 12 3) ∧ lb_X11_schedule_0_tTx_44 n I A J t x1 x2 n (pI_X5_renew_53 n I (pA_X11_learn_0 n I A J (true, t.2) x2) J (true, t.2) (I 12 3)) (pA_X5_renew_53 n I (pA_X11_learn_0 n I A J (true, t.2) x2) J (true, t.2) (I 12 3)) 0 0))
def px_X11_schedule_0_tTx (n : Nat) (I : Nat → Nat → Int32) (A : Nat → Nat → Int32) (J : Nat → Nat → Int64) (t : Bool × Bool) (x1 : Int32) (x2 : Int32) : Int32 := (if (px_X11_isDay n I A J (true, t.2) x1) = 0 then (-1) else (if (px_X1_canKnow_19 n I A J (true, t.2) x2) = 0 then (-1) else (q3w44_X11_schedule_0_tTx n I A J t x1 x2)))
def pI_X11_schedule_0_tTx (n : Nat) (I : Nat → Nat → Int32) (A : Nat → Nat → Int32) (J : Nat → Nat → Int64) (t : Bool × Bool) (x1 : Int32) (x2 : Int32) : Nat → Nat → Int32 := (if (px_X11_isDay n I A J (true, t.2) x1) = 0 then I else (if (px_X1_canKnow_19 n I A J (true, t.2) x2) = 0 then I else (qIw44_X11_schedule_0_tTx n I A J t x1 x2)))
def pA_X11_schedule_0_tTx (n : Nat) (I : Nat → Nat → Int32) (A : Nat → Nat → Int32) (J : Nat → Nat → Int64) (t : Bool × Bool) (x1 : Int32) (x2 : Int32) : Nat → Nat → Int32 := (if (px_X11_isDay n I A J (true, t.2) x1) = 0 then A else (if (px_X1_canKnow_19 n I A J (true, t.2) x2) = 0 then A else (qAw44_X11_schedule_0_tTx n I A J t x1 x2)))
set_option maxRecDepth 100000 in
set_option maxHeartbeats 4000000 in
theorem lt_X11_schedule_0_tTx_44 (g : cw_G) (n : Nat) (I : Nat → Nat → Int32) (A : Nat → Nat → Int32) (J : Nat → Nat → Int64) (t : Bool × Bool) (x1 : Int32) (x2 : Int32) {Q : Option Value → cw_H → Prop} : ∀ (f : Nat) (I44 : Nat → Nat → Int32) (A44 : Nat → Nat → Int32) (v44_3 : Int32) (v44_4 : Int32) (w0 : Nat → Nat → Int32) (w1 : Nat → Nat → Int32) (w2 : Int32) (w3 : Int32), lb_X11_schedule_0_tTx_44 n I A J t x1 x2 f I44 A44 v44_3 v44_4 → (lp_X11_schedule_0_tTx_44 n I A J t x1 x2 f I44 A44 v44_3 v44_4).1 = w0 → (lp_X11_schedule_0_tTx_44 n I A J t x1 x2 f I44 A44 v44_3 v44_4).2.1 = w1 → (lp_X11_schedule_0_tTx_44 n I A J t x1 x2 f I44 A44 v44_3 v44_4).2.2.1 = w2 → (lp_X11_schedule_0_tTx_44 n I A J t x1 x2 f I44 A44 v44_3 v44_4).2.2.2 = w3 → Ev g mX11_schedule 0 0 97 [some (.ref (cw_z g + 0)), some (.int x1), some (.int x2), some (.int w2), some (.int w3)] [] (hp g w0 w1 J (true, t.2)) Q → Ev g mX11_schedule 0 0 44 [some (.ref (cw_z g + 0)), some (.int x1), some (.int x2), some (.int v44_3), some (.int v44_4)] [] (hp g I44 A44 J (true, t.2)) Q := by
  intro f
  induction f with
  | zero =>
    intro I44 A44 v44_3 v44_4 w0 w1 w2 w3 hb
    exact hb.elim
  | succ f ih =>
    intro I44 A44 v44_3 v44_4 w0 w1 w2 w3 hb h0 h1 h2 h3 hE
    rw [lb_X11_schedule_0_tTx_44] at hb
    rw [lp_X11_schedule_0_tTx_44] at h0 h1 h2 h3
    refine ev_iload (pc := 44) dX11_schedule_44 rfl ?_
    refine ev_bipush (pc := 46) (v := 24) dX11_schedule_46 (by decide) ?_
    have hF_48 := hb
    refine ev_icmp_ge (pc := 48) (tgt := 97) dX11_schedule_48 (by decide) (fun c_48 => ?_) (fun c_48 => ?_)
    · try simp only [if_pos c_48] at h0
      try simp only [if_pos c_48] at h1
      try simp only [if_pos c_48] at h2
      try simp only [if_pos c_48] at h3
      subst h0
      subst h1
      subst h2
      subst h3
      exact ev_loc hE cw_le0
    · have hb := hF_48 c_48
      try simp only [if_neg c_48] at h0
      try simp only [if_neg c_48] at h1
      try simp only [if_neg c_48] at h2
      try simp only [if_neg c_48] at h3
      refine ev_aload_n (pc := 51) dX11_schedule_51 rfl ?_
      refine ev_iload_n (pc := 52) dX11_schedule_52 rfl ?_
      refine ev_iload (pc := 53) dX11_schedule_53 rfl ?_
      refine ev_iload_n (pc := 55) dX11_schedule_55 rfl ?_
      refine ev_Vv (pc := 56) dX11_schedule_56 lk_X11_221 cd_X11_offerAll ar_X11_offerAll ⟨by decide, rfl, rfl⟩ (cv_X11_offerAll_0_tTx g n I44 A44 J (true, t.2) x1 v44_4 x2 hb.1) (show 0 < 120 by decide) rfl rfl rfl rfl (Nat.le_of_ble_eq_true rfl) ⟨by decide, by decide⟩ ?_
      replace hb := hb.2
      refine ev_aload_n (pc := 59) dX11_schedule_59 rfl ?_
      refine tv_getr (pc := 60) (d := 46) dX11_schedule_60 fl_X11_74 (by decide) rfl rfl ?_
      refine ev_aload_n (pc := 63) dX11_schedule_63 rfl ?_
      refine tv_getr (pc := 64) (d := 9) dX11_schedule_64 fl_X11_24 (by decide) rfl rfl ?_
      refine tv_geti (pc := 67) dX11_schedule_67 fl_X11_224 (by decide) rfl rfl ?_
      refine ev_Vv (pc := 70) dX11_schedule_70 lk_X11_225 cd_X3_solve ar_X3_solve ⟨by decide, rfl, rfl⟩ (cv_X3_solve_46 g n (pI_X11_offerAll_0_tTx n I44 A44 J (true, t.2) x1 v44_4 x2) (pA_X11_offerAll_0_tTx n I44 A44 J (true, t.2) x1 v44_4 x2) J (true, t.2) ((pI_X11_offerAll_0_tTx n I44 A44 J (true, t.2) x1 v44_4 x2) 9 2) hb.1) (show 46 < 120 by decide) rfl rfl rfl rfl (Nat.le_of_ble_eq_true rfl) ⟨by decide, by decide⟩ ?_
      replace hb := hb.2
      refine ev_aload_n (pc := 73) dX11_schedule_73 rfl ?_
      refine ev_iload (pc := 74) dX11_schedule_74 rfl ?_
      refine ev_Vv (pc := 76) dX11_schedule_76 lk_X11_228 cd_X11_settle ar_X11_settle ⟨by decide, rfl, rfl⟩ (cv_X11_settle_0 g n (pI_X11_offerAll_0_tTx n I44 A44 J (true, t.2) x1 v44_4 x2) (pA_X3_solve_46 n (pI_X11_offerAll_0_tTx n I44 A44 J (true, t.2) x1 v44_4 x2) (pA_X11_offerAll_0_tTx n I44 A44 J (true, t.2) x1 v44_4 x2) J (true, t.2) ((pI_X11_offerAll_0_tTx n I44 A44 J (true, t.2) x1 v44_4 x2) 9 2)) J (true, t.2) v44_4 hb.1) (show 0 < 120 by decide) rfl rfl rfl rfl (Nat.le_of_ble_eq_true rfl) ⟨by decide, by decide⟩ ?_
      replace hb := hb.2
      refine ev_iload_n (pc := 79) dX11_schedule_79 rfl ?_
      refine ev_aload_n (pc := 80) dX11_schedule_80 rfl ?_
      refine tv_getr (pc := 81) (d := 53) dX11_schedule_81 fl_X11_81 (by decide) rfl rfl ?_
      refine ev_iload (pc := 84) dX11_schedule_84 rfl ?_
      refine ev_Vi (pc := 86) dX11_schedule_86 lk_X11_231 cd_X5_listenersIn ar_X5_listenersIn ⟨by decide, rfl, rfl⟩ (cv_X5_listenersIn_53 g n (pI_X11_offerAll_0_tTx n I44 A44 J (true, t.2) x1 v44_4 x2) (pA_X11_settle_0 n (pI_X11_offerAll_0_tTx n I44 A44 J (true, t.2) x1 v44_4 x2) (pA_X3_solve_46 n (pI_X11_offerAll_0_tTx n I44 A44 J (true, t.2) x1 v44_4 x2) (pA_X11_offerAll_0_tTx n I44 A44 J (true, t.2) x1 v44_4 x2) J (true, t.2) ((pI_X11_offerAll_0_tTx n I44 A44 J (true, t.2) x1 v44_4 x2) 9 2)) J (true, t.2) v44_4) J (true, t.2) v44_4 hb.1) (show 53 < 120 by decide) rfl rfl rfl rfl (Nat.le_of_ble_eq_true rfl) ⟨by decide, by decide⟩ ?_
      replace hb := hb.2
      refine ev_iadd (pc := 89) dX11_schedule_89 ?_
      refine ev_is (y := (q90_X11_schedule_0_tTx n I A J t x1 x2 I44 A44 v44_3 v44_4)) rfl ?_
      refine ev_istore_3 (pc := 90) dX11_schedule_90 (by decide) rfl ?_
      refine ev_iinc_4 (pc := 91) (v := (q91_X11_schedule_0_tTx n I A J t x1 x2 I44 A44 v44_3 v44_4)) dX11_schedule_91 (by decide) rfl rfl ?_
      refine ev_goto (pc := 94) (tgt := 44) dX11_schedule_94 (by decide) ?_
      exact ev_loc (ih (pI_X11_offerAll_0_tTx n I44 A44 J (true, t.2) x1 v44_4 x2) (pA_X11_settle_0 n (pI_X11_offerAll_0_tTx n I44 A44 J (true, t.2) x1 v44_4 x2) (pA_X3_solve_46 n (pI_X11_offerAll_0_tTx n I44 A44 J (true, t.2) x1 v44_4 x2) (pA_X11_offerAll_0_tTx n I44 A44 J (true, t.2) x1 v44_4 x2) J (true, t.2) ((pI_X11_offerAll_0_tTx n I44 A44 J (true, t.2) x1 v44_4 x2) 9 2)) J (true, t.2) v44_4) (q90_X11_schedule_0_tTx n I A J t x1 x2 I44 A44 v44_3 v44_4) (q91_X11_schedule_0_tTx n I A J t x1 x2 I44 A44 v44_3 v44_4) w0 w1 w2 w3 hb h0 h1 h2 h3 hE) cw_le0

set_option maxRecDepth 100000 in
set_option maxHeartbeats 4000000 in
theorem cv_X11_schedule_0_tTx (g : cw_G) (n : Nat) (I : Nat → Nat → Int32) (A : Nat → Nat → Int32) (J : Nat → Nat → Int64) (t : Bool × Bool) (x1 : Int32) (x2 : Int32) (hb : pb_X11_schedule_0_tTx n I A J t x1 x2) : Cd g mX11_schedule [(.ref (cw_z g + 0)), (.int x1), (.int x2)] (hp g I A J (true, t.2)) (some (.int (px_X11_schedule_0_tTx n I A J t x1 x2))) (hp g (pI_X11_schedule_0_tTx n I A J t x1 x2) (pA_X11_schedule_0_tTx n I A J t x1 x2) J (true, t.2)) := by
  unfold pb_X11_schedule_0_tTx at hb
  unfold px_X11_schedule_0_tTx pI_X11_schedule_0_tTx pA_X11_schedule_0_tTx
  refine Cd.of rfl (Nat.le_of_ble_eq_true rfl) (ev_gen (fun Q hQ => ?_))
  refine ev_iload_n (pc := 0) dX11_schedule_0 rfl ?_
  refine ev_Si (pc := 1) dX11_schedule_1 lk_X11_156 cd_X11_isDay ar_X11_isDay ⟨by decide, rfl, rfl⟩ (cv_X11_isDay g n I A J (true, t.2) x1) rfl rfl (Nat.le_of_ble_eq_true rfl) ⟨by decide, by decide⟩ ?_
  have hF_4 := hb
  refine ev_if_eq (pc := 4) (tgt := 18) dX11_schedule_4 (by decide) (fun c_4 => ?_) (fun c_4 => ?_)
  · try simp only [if_pos c_4] at hQ
    refine ev_iconst (pc := 18) (v := (-1)) dX11_schedule_18 (by decide) ?_
    exact ev_iret (pc := 19) dX11_schedule_19 rfl (by decide) (by decide) (hQ _ _ ⟨rfl, rfl⟩)
  · have hb := hF_4 c_4
    try simp only [if_neg c_4] at hQ
    refine ev_aload_n (pc := 7) dX11_schedule_7 rfl ?_
    refine tv_getr (pc := 8) (d := 19) dX11_schedule_8 fl_X11_45 (by decide) rfl rfl ?_
    refine ev_iload_n (pc := 11) dX11_schedule_11 rfl ?_
    refine ev_Vi (pc := 12) dX11_schedule_12 lk_X11_179 cd_X1_canKnow ar_X1_canKnow ⟨by decide, rfl, rfl⟩ (cv_X1_canKnow_19 g n I A J (true, t.2) x2) (show 19 < 120 by decide) rfl rfl rfl rfl (Nat.le_of_ble_eq_true rfl) ⟨by decide, by decide⟩ ?_
    have hT_15 := hb
    refine ev_if_ne (pc := 15) (tgt := 20) dX11_schedule_15 (by decide) (fun c_15 => ?_) (fun c_15 => ?_)
    · have hb := hT_15 c_15
      try simp only [if_neg c_15] at hQ
      refine ev_aload_n (pc := 20) dX11_schedule_20 rfl ?_
      refine ev_iload_n (pc := 21) dX11_schedule_21 rfl ?_
      refine ev_Vv (pc := 22) dX11_schedule_22 lk_X11_183 cd_X11_learn ar_X11_learn ⟨by decide, rfl, rfl⟩ (cv_X11_learn_0 g n I A J (true, t.2) x2 hb.1) (show 0 < 120 by decide) rfl rfl rfl rfl (Nat.le_of_ble_eq_true rfl) ⟨by decide, by decide⟩ ?_
      replace hb := hb.2
      refine ev_aload_n (pc := 25) dX11_schedule_25 rfl ?_
      refine tv_getr (pc := 26) (d := 53) dX11_schedule_26 fl_X11_81 (by decide) rfl rfl ?_
      refine ev_aload_n (pc := 29) dX11_schedule_29 rfl ?_
      refine tv_getr (pc := 30) (d := 12) dX11_schedule_30 fl_X11_31 (by decide) rfl rfl ?_
      refine tv_geti (pc := 33) dX11_schedule_33 fl_X11_216 (by decide) rfl rfl ?_
      refine ev_Vv (pc := 36) dX11_schedule_36 lk_X11_219 cd_X5_renew ar_X5_renew ⟨by decide, rfl, rfl⟩ (cv_X5_renew_53 g n I (pA_X11_learn_0 n I A J (true, t.2) x2) J (true, t.2) (I 12 3) hb.1) (show 53 < 120 by decide) rfl rfl rfl rfl (Nat.le_of_ble_eq_true rfl) ⟨by decide, by decide⟩ ?_
      replace hb := hb.2
      refine ev_iconst (pc := 39) (v := 0) dX11_schedule_39 (by decide) ?_
      refine ev_istore_3 (pc := 40) dX11_schedule_40 (by decide) rfl ?_
      refine ev_iconst (pc := 41) (v := 0) dX11_schedule_41 (by decide) ?_
      refine ev_istore_4 (pc := 42) dX11_schedule_42 (by decide) rfl ?_
      refine lt_X11_schedule_0_tTx_44 g n I A J t x1 x2 n (pI_X5_renew_53 n I (pA_X11_learn_0 n I A J (true, t.2) x2) J (true, t.2) (I 12 3)) (pA_X5_renew_53 n I (pA_X11_learn_0 n I A J (true, t.2) x2) J (true, t.2) (I 12 3)) 0 0 (qIw44_X11_schedule_0_tTx n I A J t x1 x2) (qAw44_X11_schedule_0_tTx n I A J t x1 x2) (q3w44_X11_schedule_0_tTx n I A J t x1 x2) (q4w44_X11_schedule_0_tTx n I A J t x1 x2) hb rfl rfl rfl rfl ?_
      refine ev_iload_n (pc := 97) dX11_schedule_97 rfl ?_
      exact ev_iret (pc := 98) dX11_schedule_98 rfl (by decide) (by decide) (hQ _ _ ⟨rfl, rfl⟩)
    · try simp only [if_pos c_15] at hQ
      refine ev_iconst (pc := 18) (v := (-1)) dX11_schedule_18 (by decide) ?_
      exact ev_iret (pc := 19) dX11_schedule_19 rfl (by decide) (by decide) (hQ _ _ ⟨rfl, rfl⟩)

def px_X11_count_0_tTx (n : Nat) (I : Nat → Nat → Int32) (A : Nat → Nat → Int32) (J : Nat → Nat → Int64) (t : Bool × Bool) (x1 : Int32) : Int32 := (if x1 = 0 then (I 1 3) else (if x1 = 1 then (I 5 3) else (if x1 = 2 then (I 9 2) else (if x1 = 3 then (I 12 3) else (if x1 = 4 then (I 19 9) else (if x1 = 5 then (I 37 8) else (if x1 = 6 then (I 0 14) else (if x1 = 7 then (I 0 13) else (-1)))))))))
set_option maxRecDepth 100000 in
set_option maxHeartbeats 4000000 in
theorem cv_X11_count_0_tTx (g : cw_G) (n : Nat) (I : Nat → Nat → Int32) (A : Nat → Nat → Int32) (J : Nat → Nat → Int64) (t : Bool × Bool) (x1 : Int32) : Cd g mX11_count [(.ref (cw_z g + 0)), (.int x1)] (hp g I A J (true, t.2)) (some (.int (px_X11_count_0_tTx n I A J t x1))) (hp g I A J (true, t.2)) := by
  unfold px_X11_count_0_tTx
  refine Cd.of rfl (Nat.le_of_ble_eq_true rfl) (ev_gen (fun Q hQ => ?_))
  refine ev_iload_n (pc := 0) dX11_count_0 rfl ?_
  by_cases s_1_0 : x1 = 0
  · try simp only [if_pos s_1_0] at hQ
    refine ev_tableIn (pc := 1) (tgt := 48) (off := 47) dX11_count_1 (by rw [s_1_0]; decide) (by rw [s_1_0]; decide) (by rw [s_1_0]; decide) (by decide) ?_
    refine ev_aload_n (pc := 48) dX11_count_48 rfl ?_
    refine tv_getr (pc := 49) (d := 1) dX11_count_49 fl_X11_14 (by decide) rfl rfl ?_
    refine tv_geti (pc := 52) dX11_count_52 fl_X11_253 (by decide) rfl rfl ?_
    exact ev_iret (pc := 55) dX11_count_55 rfl (by decide) (by decide) (hQ _ _ ⟨rfl, rfl⟩)
  try simp only [if_neg s_1_0] at hQ
  by_cases s_1_1 : x1 = 1
  · try simp only [if_pos s_1_1] at hQ
    refine ev_tableIn (pc := 1) (tgt := 56) (off := 55) dX11_count_1 (by rw [s_1_1]; decide) (by rw [s_1_1]; decide) (by rw [s_1_1]; decide) (by decide) ?_
    refine ev_aload_n (pc := 56) dX11_count_56 rfl ?_
    refine tv_getr (pc := 57) (d := 5) dX11_count_57 fl_X11_18 (by decide) rfl rfl ?_
    refine tv_geti (pc := 60) dX11_count_60 fl_X11_253 (by decide) rfl rfl ?_
    exact ev_iret (pc := 63) dX11_count_63 rfl (by decide) (by decide) (hQ _ _ ⟨rfl, rfl⟩)
  try simp only [if_neg s_1_1] at hQ
  by_cases s_1_2 : x1 = 2
  · try simp only [if_pos s_1_2] at hQ
    refine ev_tableIn (pc := 1) (tgt := 64) (off := 63) dX11_count_1 (by rw [s_1_2]; decide) (by rw [s_1_2]; decide) (by rw [s_1_2]; decide) (by decide) ?_
    refine ev_aload_n (pc := 64) dX11_count_64 rfl ?_
    refine tv_getr (pc := 65) (d := 9) dX11_count_65 fl_X11_24 (by decide) rfl rfl ?_
    refine tv_geti (pc := 68) dX11_count_68 fl_X11_224 (by decide) rfl rfl ?_
    exact ev_iret (pc := 71) dX11_count_71 rfl (by decide) (by decide) (hQ _ _ ⟨rfl, rfl⟩)
  try simp only [if_neg s_1_2] at hQ
  by_cases s_1_3 : x1 = 3
  · try simp only [if_pos s_1_3] at hQ
    refine ev_tableIn (pc := 1) (tgt := 72) (off := 71) dX11_count_1 (by rw [s_1_3]; decide) (by rw [s_1_3]; decide) (by rw [s_1_3]; decide) (by decide) ?_
    refine ev_aload_n (pc := 72) dX11_count_72 rfl ?_
    refine tv_getr (pc := 73) (d := 12) dX11_count_73 fl_X11_31 (by decide) rfl rfl ?_
    refine tv_geti (pc := 76) dX11_count_76 fl_X11_216 (by decide) rfl rfl ?_
    exact ev_iret (pc := 79) dX11_count_79 rfl (by decide) (by decide) (hQ _ _ ⟨rfl, rfl⟩)
  try simp only [if_neg s_1_3] at hQ
  by_cases s_1_4 : x1 = 4
  · try simp only [if_pos s_1_4] at hQ
    refine ev_tableIn (pc := 1) (tgt := 80) (off := 79) dX11_count_1 (by rw [s_1_4]; decide) (by rw [s_1_4]; decide) (by rw [s_1_4]; decide) (by decide) ?_
    refine ev_aload_n (pc := 80) dX11_count_80 rfl ?_
    refine tv_getr (pc := 81) (d := 19) dX11_count_81 fl_X11_45 (by decide) rfl rfl ?_
    refine tv_geti (pc := 84) dX11_count_84 fl_X11_254 (by decide) rfl rfl ?_
    exact ev_iret (pc := 87) dX11_count_87 rfl (by decide) (by decide) (hQ _ _ ⟨rfl, rfl⟩)
  try simp only [if_neg s_1_4] at hQ
  by_cases s_1_5 : x1 = 5
  · try simp only [if_pos s_1_5] at hQ
    refine ev_tableIn (pc := 1) (tgt := 88) (off := 87) dX11_count_1 (by rw [s_1_5]; decide) (by rw [s_1_5]; decide) (by rw [s_1_5]; decide) (by decide) ?_
    refine ev_aload_n (pc := 88) dX11_count_88 rfl ?_
    refine tv_getr (pc := 89) (d := 37) dX11_count_89 fl_X11_88 (by decide) rfl rfl ?_
    refine tv_geti (pc := 92) dX11_count_92 fl_X11_255 (by decide) rfl rfl ?_
    exact ev_iret (pc := 95) dX11_count_95 rfl (by decide) (by decide) (hQ _ _ ⟨rfl, rfl⟩)
  try simp only [if_neg s_1_5] at hQ
  by_cases s_1_6 : x1 = 6
  · try simp only [if_pos s_1_6] at hQ
    refine ev_tableIn (pc := 1) (tgt := 96) (off := 95) dX11_count_1 (by rw [s_1_6]; decide) (by rw [s_1_6]; decide) (by rw [s_1_6]; decide) (by decide) ?_
    refine ev_aload_n (pc := 96) dX11_count_96 rfl ?_
    refine tv_geti (pc := 97) dX11_count_97 fl_X11_96 (by decide) rfl rfl ?_
    exact ev_iret (pc := 100) dX11_count_100 rfl (by decide) (by decide) (hQ _ _ ⟨rfl, rfl⟩)
  try simp only [if_neg s_1_6] at hQ
  by_cases s_1_7 : x1 = 7
  · try simp only [if_pos s_1_7] at hQ
    refine ev_tableIn (pc := 1) (tgt := 101) (off := 100) dX11_count_1 (by rw [s_1_7]; decide) (by rw [s_1_7]; decide) (by rw [s_1_7]; decide) (by decide) ?_
    refine ev_aload_n (pc := 101) dX11_count_101 rfl ?_
    refine tv_geti (pc := 102) dX11_count_102 fl_X11_92 (by decide) rfl rfl ?_
    exact ev_iret (pc := 105) dX11_count_105 rfl (by decide) (by decide) (hQ _ _ ⟨rfl, rfl⟩)
  try simp only [if_neg s_1_7] at hQ
  refine ev_tableOut (pc := 1) (tgt := 106) dX11_count_1 (by simp only [← Int32.toInt_inj, Int32.reduceToInt] at s_1_0 s_1_1 s_1_2 s_1_3 s_1_4 s_1_5 s_1_6 s_1_7; omega) (by decide) ?_
  refine ev_iconst (pc := 106) (v := (-1)) dX11_count_106 (by decide) ?_
  exact ev_iret (pc := 107) dX11_count_107 rfl (by decide) (by decide) (hQ _ _ ⟨rfl, rfl⟩)
