def qI18_X4_parse_33_32_tFx (n : Nat) (I : Nat → Nat → Int32) (A : Nat → Nat → Int32) (J : Nat → Nat → Int64) (t : Bool × Bool) (x1 : Int32) : Nat → Nat → Int32 := cw_u (pI_X7_start_34_32 n (pI_X10_renew_37 n I A J (false, t.2) ) A J (false, t.2) x1) 33 4 0
def qI23_X4_parse_33_32_tFx (n : Nat) (I : Nat → Nat → Int32) (A : Nat → Nat → Int32) (J : Nat → Nat → Int64) (t : Bool × Bool) (x1 : Int32) : Nat → Nat → Int32 := cw_u (qI18_X4_parse_33_32_tFx n I A J t x1) 33 3 0
def qI28_X4_parse_33_32_tFx (n : Nat) (I : Nat → Nat → Int32) (A : Nat → Nat → Int32) (J : Nat → Nat → Int64) (t : Bool × Bool) (x1 : Int32) : Nat → Nat → Int32 := cw_u (qI23_X4_parse_33_32_tFx n I A J t x1) 33 10 (-1)
def q72_X4_parse_33_32_tFx (n : Nat) (I : Nat → Nat → Int32) (A : Nat → Nat → Int32) (J : Nat → Nat → Int64) (t : Bool × Bool) (x1 : Int32) (I39 : Nat → Nat → Int32) (A39 : Nat → Nat → Int32) (v39_3 : Int32) (v39_4 : Int32) (v39_5 : Int32) : Int32 := (px_X4_faultOf_33_tFx n (pI_X7_advance_34_txT n I39 A39 J (false, true) ) A39 J (false, true) ((pI_X7_advance_34_txT n I39 A39 J (false, true) ) 34 3) v39_5)
def qs0m84_X4_parse_33_32_tFx (n : Nat) (I : Nat → Nat → Int32) (A : Nat → Nat → Int32) (J : Nat → Nat → Int64) (t : Bool × Bool) (x1 : Int32) (I39 : Nat → Nat → Int32) (A39 : Nat → Nat → Int32) (v39_3 : Int32) (v39_4 : Int32) (v39_5 : Int32) : Int32 := if ((pI_X7_advance_34_txT n I39 A39 J (false, true) ) 34 3) = 0 then 0 else 1
def qs0m74_X4_parse_33_32_tFx (n : Nat) (I : Nat → Nat → Int32) (A : Nat → Nat → Int32) (J : Nat → Nat → Int64) (t : Bool × Bool) (x1 : Int32) (I39 : Nat → Nat → Int32) (A39 : Nat → Nat → Int32) (v39_3 : Int32) (v39_4 : Int32) (v39_5 : Int32) : Int32 := if (q72_X4_parse_33_32_tFx n I A J t x1 I39 A39 v39_3 v39_4 v39_5) = 0 then (qs0m84_X4_parse_33_32_tFx n I A J t x1 I39 A39 v39_3 v39_4 v39_5) else 0
def qIm96_X4_parse_33_32_tFx (n : Nat) (I : Nat → Nat → Int32) (A : Nat → Nat → Int32) (J : Nat → Nat → Int64) (t : Bool × Bool) (x1 : Int32) (I39 : Nat → Nat → Int32) (A39 : Nat → Nat → Int32) (v39_3 : Int32) (v39_4 : Int32) (v39_5 : Int32) : Nat → Nat → Int32 := if (qs0m74_X4_parse_33_32_tFx n I A J t x1 I39 A39 v39_3 v39_4 v39_5) = 0 then (pI_X7_advance_34_txT n I39 A39 J (false, true) ) else (pI_X4_take_33_tFx n (pI_X7_advance_34_txT n I39 A39 J (false, true) ) A39 J (false, true) ((pI_X7_advance_34_txT n I39 A39 J (false, true) ) 34 3))
def qAm96_X4_parse_33_32_tFx (n : Nat) (I : Nat → Nat → Int32) (A : Nat → Nat → Int32) (J : Nat → Nat → Int64) (t : Bool × Bool) (x1 : Int32) (I39 : Nat → Nat → Int32) (A39 : Nat → Nat → Int32) (v39_3 : Int32) (v39_4 : Int32) (v39_5 : Int32) : Nat → Nat → Int32 := if (qs0m74_X4_parse_33_32_tFx n I A J t x1 I39 A39 v39_3 v39_4 v39_5) = 0 then A39 else (pA_X4_take_33_tFx n (pI_X7_advance_34_txT n I39 A39 J (false, true) ) A39 J (false, true) ((pI_X7_advance_34_txT n I39 A39 J (false, true) ) 34 3))
def q110_X4_parse_33_32_tFx (n : Nat) (I : Nat → Nat → Int32) (A : Nat → Nat → Int32) (J : Nat → Nat → Int64) (t : Bool × Bool) (x1 : Int32) (I39 : Nat → Nat → Int32) (A39 : Nat → Nat → Int32) (v39_3 : Int32) (v39_4 : Int32) (v39_5 : Int32) : Int32 := v39_5 + 1
def lp_X4_parse_33_32_tFx_39 (n : Nat) (I : Nat → Nat → Int32) (A : Nat → Nat → Int32) (J : Nat → Nat → Int64) (t : Bool × Bool) (x1 : Int32) : Nat → (Nat → Nat → Int32) → (Nat → Nat → Int32) → (Int32) → (Int32) → (Int32) → (Nat → Nat → Int32) × (Nat → Nat → Int32) × Int32 × Int32 × Int32
  | 0, I39, A39, v39_3, v39_4, v39_5 => (I39, A39, v39_3, v39_4, v39_5)
  | f + 1, I39, A39, v39_3, v39_4, v39_5 => if 400 < v39_5 then (I39, A39, v39_3, v39_4, v39_5) else if v39_4 = 0 then (I39, A39, v39_3, v39_4, v39_5) else lp_X4_parse_33_32_tFx_39 n I A J t x1 f (qIm96_X4_parse_33_32_tFx n I A J t x1 I39 A39 v39_3 v39_4 v39_5) (qAm96_X4_parse_33_32_tFx n I A J t x1 I39 A39 v39_3 v39_4 v39_5) (q72_X4_parse_33_32_tFx n I A J t x1 I39 A39 v39_3 v39_4 v39_5) (qs0m74_X4_parse_33_32_tFx n I A J t x1 I39 A39 v39_3 v39_4 v39_5) (q110_X4_parse_33_32_tFx n I A J t x1 I39 A39 v39_3 v39_4 v39_5)
def lb_X4_parse_33_32_tFx_39 (n : Nat) (I : Nat → Nat → Int32) (A : Nat → Nat → Int32) (J : Nat → Nat → Int64) (t : Bool × Bool) (x1 : Int32) : Nat → (Nat → Nat → Int32) → (Nat → Nat → Int32) → (Int32) → (Int32) → (Int32) → Prop
  | 0, _, _, _, _, _ => False
  | f + 1, I39, A39, v39_3, v39_4, v39_5 => (¬ 400 < v39_5 → (¬ v39_4 = 0 → pb_X7_advance_34_txT n I39 A39 J (false, true)  ∧ (¬ (qs0m74_X4_parse_33_32_tFx n I A J t x1 I39 A39 v39_3 v39_4 v39_5) = 0 → pb_X4_take_33_tFx n (pI_X7_advance_34_txT n I39 A39 J (false, true) ) A39 J (false, true) ((pI_X7_advance_34_txT n I39 A39 J (false, true) ) 34 3)) ∧ lb_X4_parse_33_32_tFx_39 n I A J t x1 f (qIm96_X4_parse_33_32_tFx n I A J t x1 I39 A39 v39_3 v39_4 v39_5) (qAm96_X4_parse_33_32_tFx n I A J t x1 I39 A39 v39_3 v39_4 v39_5) (q72_X4_parse_33_32_tFx n I A J t x1 I39 A39 v39_3 v39_4 v39_5) (qs0m74_X4_parse_33_32_tFx n I A J t x1 I39 A39 v39_3 v39_4 v39_5) (q110_X4_parse_33_32_tFx n I A J t x1 I39 A39 v39_3 v39_4 v39_5)))
def qIw39_X4_parse_33_32_tFx (n : Nat) (I : Nat → Nat → Int32) (A : Nat → Nat → Int32) (J : Nat → Nat → Int64) (t : Bool × Bool) (x1 : Int32) : Nat → Nat → Int32 := (lp_X4_parse_33_32_tFx_39 n I A J t x1 n (qI28_X4_parse_33_32_tFx n I A J t x1) A 0 1 0).1
def qAw39_X4_parse_33_32_tFx (n : Nat) (I : Nat → Nat → Int32) (A : Nat → Nat → Int32) (J : Nat → Nat → Int64) (t : Bool × Bool) (x1 : Int32) : Nat → Nat → Int32 := (lp_X4_parse_33_32_tFx_39 n I A J t x1 n (qI28_X4_parse_33_32_tFx n I A J t x1) A 0 1 0).2.1
def q3w39_X4_parse_33_32_tFx (n : Nat) (I : Nat → Nat → Int32) (A : Nat → Nat → Int32) (J : Nat → Nat → Int64) (t : Bool × Bool) (x1 : Int32) : Int32 := (lp_X4_parse_33_32_tFx_39 n I A J t x1 n (qI28_X4_parse_33_32_tFx n I A J t x1) A 0 1 0).2.2.1
def q4w39_X4_parse_33_32_tFx (n : Nat) (I : Nat → Nat → Int32) (A : Nat → Nat → Int32) (J : Nat → Nat → Int64) (t : Bool × Bool) (x1 : Int32) : Int32 := (lp_X4_parse_33_32_tFx_39 n I A J t x1 n (qI28_X4_parse_33_32_tFx n I A J t x1) A 0 1 0).2.2.2.1
def q5w39_X4_parse_33_32_tFx (n : Nat) (I : Nat → Nat → Int32) (A : Nat → Nat → Int32) (J : Nat → Nat → Int64) (t : Bool × Bool) (x1 : Int32) : Int32 := (lp_X4_parse_33_32_tFx_39 n I A J t x1 n (qI28_X4_parse_33_32_tFx n I A J t x1) A 0 1 0).2.2.2.2
def qs1m118_X4_parse_33_32_tFx (n : Nat) (I : Nat → Nat → Int32) (A : Nat → Nat → Int32) (J : Nat → Nat → Int64) (t : Bool × Bool) (x1 : Int32) : Int32 := if (q3w39_X4_parse_33_32_tFx n I A J t x1) = 0 then ((qIw39_X4_parse_33_32_tFx n I A J t x1) 33 10) else ((qIw39_X4_parse_33_32_tFx n I A J t x1) 34 4)
def qI135_X4_parse_33_32_tFx (n : Nat) (I : Nat → Nat → Int32) (A : Nat → Nat → Int32) (J : Nat → Nat → Int64) (t : Bool × Bool) (x1 : Int32) : Nat → Nat → Int32 := cw_u (qIw39_X4_parse_33_32_tFx n I A J t x1) 33 11 (qs1m118_X4_parse_33_32_tFx n I A J t x1)
def qs0m147_X4_parse_33_32_tFx (n : Nat) (I : Nat → Nat → Int32) (A : Nat → Nat → Int32) (J : Nat → Nat → Int64) (t : Bool × Bool) (x1 : Int32) : Int32 := if ((qI135_X4_parse_33_32_tFx n I A J t x1) 33 10) = (-1) then (q3w39_X4_parse_33_32_tFx n I A J t x1) else 5
def qs0m139_X4_parse_33_32_tFx (n : Nat) (I : Nat → Nat → Int32) (A : Nat → Nat → Int32) (J : Nat → Nat → Int64) (t : Bool × Bool) (x1 : Int32) : Int32 := if (q3w39_X4_parse_33_32_tFx n I A J t x1) = 0 then (qs0m147_X4_parse_33_32_tFx n I A J t x1) else (q3w39_X4_parse_33_32_tFx n I A J t x1)
def pb_X4_parse_33_32_tFx (n : Nat) (I : Nat → Nat → Int32) (A : Nat → Nat → Int32) (J : Nat → Nat → Int64) (t : Bool × Bool) (x1 : Int32) : Prop := lb_X4_parse_33_32_tFx_39 n I A J t x1 n (qI28_X4_parse_33_32_tFx n I A J t x1) A 0 1 0
def px_X4_parse_33_32_tFx (n : Nat) (I : Nat → Nat → Int32) (A : Nat → Nat → Int32) (J : Nat → Nat → Int64) (t : Bool × Bool) (x1 : Int32) : Int32 := (qs0m139_X4_parse_33_32_tFx n I A J t x1)
def pI_X4_parse_33_32_tFx (n : Nat) (I : Nat → Nat → Int32) (A : Nat → Nat → Int32) (J : Nat → Nat → Int64) (t : Bool × Bool) (x1 : Int32) : Nat → Nat → Int32 := (qI135_X4_parse_33_32_tFx n I A J t x1)
def pA_X4_parse_33_32_tFx (n : Nat) (I : Nat → Nat → Int32) (A : Nat → Nat → Int32) (J : Nat → Nat → Int64) (t : Bool × Bool) (x1 : Int32) : Nat → Nat → Int32 := (qAw39_X4_parse_33_32_tFx n I A J t x1)
set_option maxRecDepth 100000 in
set_option maxHeartbeats 4000000 in
theorem lt_X4_parse_33_32_tFx_39 (g : cw_G) (n : Nat) (I : Nat → Nat → Int32) (A : Nat → Nat → Int32) (J : Nat → Nat → Int64) (t : Bool × Bool) (x1 : Int32) {Q : Option Value → cw_H → Prop} : ∀ (f : Nat) (I39 : Nat → Nat → Int32) (A39 : Nat → Nat → Int32) (v39_3 : Int32) (v39_4 : Int32) (v39_5 : Int32) (w0 : Nat → Nat → Int32) (w1 : Nat → Nat → Int32) (w2 : Int32) (w3 : Int32) (w4 : Int32), lb_X4_parse_33_32_tFx_39 n I A J t x1 f I39 A39 v39_3 v39_4 v39_5 → (lp_X4_parse_33_32_tFx_39 n I A J t x1 f I39 A39 v39_3 v39_4 v39_5).1 = w0 → (lp_X4_parse_33_32_tFx_39 n I A J t x1 f I39 A39 v39_3 v39_4 v39_5).2.1 = w1 → (lp_X4_parse_33_32_tFx_39 n I A J t x1 f I39 A39 v39_3 v39_4 v39_5).2.2.1 = w2 → (lp_X4_parse_33_32_tFx_39 n I A J t x1 f I39 A39 v39_3 v39_4 v39_5).2.2.2.1 = w3 → (lp_X4_parse_33_32_tFx_39 n I A J t x1 f I39 A39 v39_3 v39_4 v39_5).2.2.2.2 = w4 → Ev g mX4_parse 0 0 116 [some (.ref (cw_z g + 33)), some (.ref (cw_z g + 32)), some (.int x1), some (.int w2), some (.int w3), some (.int w4)] [] (hp g w0 w1 J (false, true)) Q → Ev g mX4_parse 0 0 39 [some (.ref (cw_z g + 33)), some (.ref (cw_z g + 32)), some (.int x1), some (.int v39_3), some (.int v39_4), some (.int v39_5)] [] (hp g I39 A39 J (false, true)) Q := by
  intro f
  induction f with
  | zero =>
    intro I39 A39 v39_3 v39_4 v39_5 w0 w1 w2 w3 w4 hb
    exact hb.elim
  | succ f ih =>
    intro I39 A39 v39_3 v39_4 v39_5 w0 w1 w2 w3 w4 hb h0 h1 h2 h3 h4 hE
    rw [lb_X4_parse_33_32_tFx_39] at hb
    rw [lp_X4_parse_33_32_tFx_39] at h0 h1 h2 h3 h4
    refine ev_iload (pc := 39) dX4_parse_39 rfl ?_
    refine ev_sipush (pc := 41) (v := 400) dX4_parse_41 (by decide) ?_
    have hF_44 := hb
    refine ev_icmp_gt (pc := 44) (tgt := 116) dX4_parse_44 (by decide) (fun c_44 => ?_) (fun c_44 => ?_)
    · try simp only [if_pos c_44] at h0
      try simp only [if_pos c_44] at h1
      try simp only [if_pos c_44] at h2
      try simp only [if_pos c_44] at h3
      try simp only [if_pos c_44] at h4
      subst h0
      subst h1
      subst h2
      subst h3
      subst h4
      exact ev_loc hE cw_le0
    · have hb := hF_44 c_44
      try simp only [if_neg c_44] at h0
      try simp only [if_neg c_44] at h1
      try simp only [if_neg c_44] at h2
      try simp only [if_neg c_44] at h3
      try simp only [if_neg c_44] at h4
      refine ev_iload (pc := 47) dX4_parse_47 rfl ?_
      have hF_49 := hb
      refine ev_if_eq (pc := 49) (tgt := 116) dX4_parse_49 (by decide) (fun c_49 => ?_) (fun c_49 => ?_)
      · try simp only [if_pos c_49] at h0
        try simp only [if_pos c_49] at h1
        try simp only [if_pos c_49] at h2
        try simp only [if_pos c_49] at h3
        try simp only [if_pos c_49] at h4
        subst h0
        subst h1
        subst h2
        subst h3
        subst h4
        exact ev_loc hE cw_le0
      · have hb := hF_49 c_49
        try simp only [if_neg c_49] at h0
        try simp only [if_neg c_49] at h1
        try simp only [if_neg c_49] at h2
        try simp only [if_neg c_49] at h3
        try simp only [if_neg c_49] at h4
        refine ev_aload_n (pc := 52) dX4_parse_52 rfl ?_
        refine tv_getr (pc := 53) (d := 34) dX4_parse_53 fl_X4_12 (by decide) rfl rfl ?_
        refine ev_Vv (pc := 56) dX4_parse_56 lk_X4_65 cd_X7_advance ar_X7_advance ⟨by decide, rfl, rfl⟩ (cv_X7_advance_34_txT g n I39 A39 J (false, true)  hb.1) (show 34 < 120 by decide) rfl rfl rfl rfl (Nat.le_of_ble_eq_true rfl) ⟨by decide, by decide⟩ ?_
        replace hb := hb.2
        refine ev_aload_n (pc := 59) dX4_parse_59 rfl ?_
        refine ev_aload_n (pc := 60) dX4_parse_60 rfl ?_
        refine tv_getr (pc := 61) (d := 34) dX4_parse_61 fl_X4_12 (by decide) rfl rfl ?_
        refine tv_geti (pc := 64) dX4_parse_64 fl_X4_68 (by decide) rfl rfl ?_
        refine ev_iload (pc := 67) dX4_parse_67 rfl ?_
        refine ev_Vi (pc := 69) dX4_parse_69 lk_X4_71 cd_X4_faultOf ar_X4_faultOf ⟨by decide, rfl, rfl⟩ (cv_X4_faultOf_33_tFx g n (pI_X7_advance_34_txT n I39 A39 J (false, true) ) A39 J (false, true) ((pI_X7_advance_34_txT n I39 A39 J (false, true) ) 34 3) v39_5) (show 33 < 120 by decide) rfl rfl rfl rfl (Nat.le_of_ble_eq_true rfl) ⟨by decide, by decide⟩ ?_
        refine ev_is (y := (q72_X4_parse_33_32_tFx n I A J t x1 I39 A39 v39_3 v39_4 v39_5)) rfl ?_
        refine ev_istore_3 (pc := 72) dX4_parse_72 (by decide) rfl ?_
        refine ev_iload_n (pc := 73) dX4_parse_73 rfl ?_
        refine ev_cut (pj := 92) (Lj := [some (.ref (cw_z g + 33)), some (.ref (cw_z g + 32)), some (.int x1), some (.int (q72_X4_parse_33_32_tFx n I A J t x1 I39 A39 v39_3 v39_4 v39_5)), some (.int v39_4), some (.int v39_5)]) (stj := [(.int (qs0m74_X4_parse_33_32_tFx n I A J t x1 I39 A39 v39_3 v39_4 v39_5))]) (σj := hp g (pI_X7_advance_34_txT n I39 A39 J (false, true) ) A39 J (false, true)) ?_ (fun hJ_74 => ?_)
        rotate_left
        · refine ev_if_ne (pc := 74) (tgt := 91) dX4_parse_74 (by decide) (fun c_74 => ?_) (fun c_74 => ?_)
          · refine ev_iconst (pc := 91) (v := 0) dX4_parse_91 (by decide) ?_
            simp only [qs0m74_X4_parse_33_32_tFx, if_neg c_74] at hJ_74
            exact ev_loc hJ_74 cw_le0
          · refine ev_aload_n (pc := 77) dX4_parse_77 rfl ?_
            refine tv_getr (pc := 78) (d := 34) dX4_parse_78 fl_X4_12 (by decide) rfl rfl ?_
            refine tv_geti (pc := 81) dX4_parse_81 fl_X4_68 (by decide) rfl rfl ?_
            refine ev_cut (pj := 92) (Lj := [some (.ref (cw_z g + 33)), some (.ref (cw_z g + 32)), some (.int x1), some (.int (q72_X4_parse_33_32_tFx n I A J t x1 I39 A39 v39_3 v39_4 v39_5)), some (.int v39_4), some (.int v39_5)]) (stj := [(.int (qs0m84_X4_parse_33_32_tFx n I A J t x1 I39 A39 v39_3 v39_4 v39_5))]) (σj := hp g (pI_X7_advance_34_txT n I39 A39 J (false, true) ) A39 J (false, true)) ?_ (fun hJ_84 => ?_)
            rotate_left
            · refine ev_if_eq (pc := 84) (tgt := 91) dX4_parse_84 (by decide) (fun c_84 => ?_) (fun c_84 => ?_)
              · refine ev_iconst (pc := 91) (v := 0) dX4_parse_91 (by decide) ?_
                simp only [qs0m84_X4_parse_33_32_tFx, if_pos c_84] at hJ_84
                exact ev_loc hJ_84 cw_le0
              · refine ev_iconst (pc := 87) (v := 1) dX4_parse_87 (by decide) ?_
                refine ev_goto (pc := 88) (tgt := 92) dX4_parse_88 (by decide) ?_
                simp only [qs0m84_X4_parse_33_32_tFx, if_neg c_84] at hJ_84
                exact ev_loc hJ_84 cw_le0
            simp only [qs0m74_X4_parse_33_32_tFx, if_pos c_74] at hJ_74
            exact ev_loc hJ_74 cw_le0
        refine ev_istore_4 (pc := 92) dX4_parse_92 (by decide) rfl ?_
        refine ev_iload (pc := 94) dX4_parse_94 rfl ?_
        obtain ⟨hF_96, hb⟩ := hb
        refine ev_cut (pj := 110) (Lj := [some (.ref (cw_z g + 33)), some (.ref (cw_z g + 32)), some (.int x1), some (.int (q72_X4_parse_33_32_tFx n I A J t x1 I39 A39 v39_3 v39_4 v39_5)), some (.int (qs0m74_X4_parse_33_32_tFx n I A J t x1 I39 A39 v39_3 v39_4 v39_5)), some (.int v39_5)]) (stj := []) (σj := hp g (qIm96_X4_parse_33_32_tFx n I A J t x1 I39 A39 v39_3 v39_4 v39_5) (qAm96_X4_parse_33_32_tFx n I A J t x1 I39 A39 v39_3 v39_4 v39_5) J (false, true)) ?_ (fun hJ_96 => ?_)
        rotate_left
        · refine ev_if_eq (pc := 96) (tgt := 110) dX4_parse_96 (by decide) (fun c_96 => ?_) (fun c_96 => ?_)
          · simp only [qIm96_X4_parse_33_32_tFx, qAm96_X4_parse_33_32_tFx, if_pos c_96] at hJ_96
            exact ev_loc hJ_96 cw_le0
          · have hb := hF_96 c_96
            refine ev_aload_n (pc := 99) dX4_parse_99 rfl ?_
            refine ev_aload_n (pc := 100) dX4_parse_100 rfl ?_
            refine tv_getr (pc := 101) (d := 34) dX4_parse_101 fl_X4_12 (by decide) rfl rfl ?_
            refine tv_geti (pc := 104) dX4_parse_104 fl_X4_68 (by decide) rfl rfl ?_
            refine ev_Vv (pc := 107) dX4_parse_107 lk_X4_75 cd_X4_take ar_X4_take ⟨by decide, rfl, rfl⟩ (cv_X4_take_33_tFx g n (pI_X7_advance_34_txT n I39 A39 J (false, true) ) A39 J (false, true) ((pI_X7_advance_34_txT n I39 A39 J (false, true) ) 34 3) hb) (show 33 < 120 by decide) rfl rfl rfl rfl (Nat.le_of_ble_eq_true rfl) ⟨by decide, by decide⟩ ?_
            simp only [qIm96_X4_parse_33_32_tFx, qAm96_X4_parse_33_32_tFx, if_neg c_96] at hJ_96
            exact ev_loc hJ_96 cw_le0
        refine ev_iinc_5 (pc := 110) (v := (q110_X4_parse_33_32_tFx n I A J t x1 I39 A39 v39_3 v39_4 v39_5)) dX4_parse_110 (by decide) rfl rfl ?_
        refine ev_goto (pc := 113) (tgt := 39) dX4_parse_113 (by decide) ?_
        exact ev_loc (ih (qIm96_X4_parse_33_32_tFx n I A J t x1 I39 A39 v39_3 v39_4 v39_5) (qAm96_X4_parse_33_32_tFx n I A J t x1 I39 A39 v39_3 v39_4 v39_5) (q72_X4_parse_33_32_tFx n I A J t x1 I39 A39 v39_3 v39_4 v39_5) (qs0m74_X4_parse_33_32_tFx n I A J t x1 I39 A39 v39_3 v39_4 v39_5) (q110_X4_parse_33_32_tFx n I A J t x1 I39 A39 v39_3 v39_4 v39_5) w0 w1 w2 w3 w4 hb h0 h1 h2 h3 h4 hE) cw_le0

set_option maxRecDepth 100000 in
set_option maxHeartbeats 4000000 in
theorem cv_X4_parse_33_32_tFx (g : cw_G) (n : Nat) (I : Nat → Nat → Int32) (A : Nat → Nat → Int32) (J : Nat → Nat → Int64) (t : Bool × Bool) (x1 : Int32) (hb : pb_X4_parse_33_32_tFx n I A J t x1) : Cd g mX4_parse [(.ref (cw_z g + 33)), (.ref (cw_z g + 32)), (.int x1)] (hp g I A J (false, t.2)) (some (.int (px_X4_parse_33_32_tFx n I A J t x1))) (hp g (pI_X4_parse_33_32_tFx n I A J t x1) (pA_X4_parse_33_32_tFx n I A J t x1) J (false, true)) := by
  unfold pb_X4_parse_33_32_tFx at hb
  unfold px_X4_parse_33_32_tFx pI_X4_parse_33_32_tFx pA_X4_parse_33_32_tFx
  refine Cd.of rfl (Nat.le_of_ble_eq_true rfl) (ev_gen (fun Q hQ => ?_))
  refine ev_aload_n (pc := 0) dX4_parse_0 rfl ?_
  refine tv_getr (pc := 1) (d := 37) dX4_parse_1 fl_X4_25 (by decide) rfl rfl ?_
  refine ev_Vv (pc := 4) dX4_parse_4 lk_X4_58 cd_X10_renew ar_X10_renew ⟨by decide, rfl, rfl⟩ (cv_X10_renew_37 g n I A J (false, t.2) ) (show 37 < 120 by decide) rfl rfl rfl rfl (Nat.le_of_ble_eq_true rfl) ⟨by decide, by decide⟩ ?_
  refine ev_aload_n (pc := 7) dX4_parse_7 rfl ?_
  refine tv_getr (pc := 8) (d := 34) dX4_parse_8 fl_X4_12 (by decide) rfl rfl ?_
  refine ev_aload_n (pc := 11) dX4_parse_11 rfl ?_
  refine ev_iload_n (pc := 12) dX4_parse_12 rfl ?_
  refine ev_Vv (pc := 13) dX4_parse_13 lk_X4_61 cd_X7_start ar_X7_start ⟨by decide, rfl, rfl⟩ (cv_X7_start_34_32 g n (pI_X10_renew_37 n I A J (false, t.2) ) A J (false, t.2) x1) (show 34 < 120 by decide) rfl rfl rfl rfl (Nat.le_of_ble_eq_true rfl) ⟨by decide, by decide⟩ ?_
  refine ev_aload_n (pc := 16) dX4_parse_16 rfl ?_
  refine ev_iconst (pc := 17) (v := 0) dX4_parse_17 (by decide) ?_
  refine tw_puti (pc := 18) (I2 := (qI18_X4_parse_33_32_tFx n I A J t x1)) dX4_parse_18 fp_X4_33 (by decide) rfl rfl rfl ?_
  refine ev_aload_n (pc := 21) dX4_parse_21 rfl ?_
  refine ev_iconst (pc := 22) (v := 0) dX4_parse_22 (by decide) ?_
  refine tw_puti (pc := 23) (I2 := (qI23_X4_parse_33_32_tFx n I A J t x1)) dX4_parse_23 fp_X4_29 (by decide) rfl rfl rfl ?_
  refine ev_aload_n (pc := 26) dX4_parse_26 rfl ?_
  refine ev_iconst (pc := 27) (v := (-1)) dX4_parse_27 (by decide) ?_
  refine tw_puti (pc := 28) (I2 := (qI28_X4_parse_33_32_tFx n I A J t x1)) dX4_parse_28 fp_X4_52 (by decide) rfl rfl rfl ?_
  refine ev_iconst (pc := 31) (v := 0) dX4_parse_31 (by decide) ?_
  refine ev_istore_3 (pc := 32) dX4_parse_32 (by decide) rfl ?_
  refine ev_iconst (pc := 33) (v := 1) dX4_parse_33 (by decide) ?_
  refine ev_istore_4 (pc := 34) dX4_parse_34 (by decide) rfl ?_
  refine ev_iconst (pc := 36) (v := 0) dX4_parse_36 (by decide) ?_
  refine ev_istore_5 (pc := 37) dX4_parse_37 (by decide) rfl ?_
  refine lt_X4_parse_33_32_tFx_39 g n I A J t x1 n (qI28_X4_parse_33_32_tFx n I A J t x1) A 0 1 0 (qIw39_X4_parse_33_32_tFx n I A J t x1) (qAw39_X4_parse_33_32_tFx n I A J t x1) (q3w39_X4_parse_33_32_tFx n I A J t x1) (q4w39_X4_parse_33_32_tFx n I A J t x1) (q5w39_X4_parse_33_32_tFx n I A J t x1) hb rfl rfl rfl rfl rfl ?_
  refine ev_aload_n (pc := 116) dX4_parse_116 rfl ?_
  refine ev_iload_n (pc := 117) dX4_parse_117 rfl ?_
  refine ev_cut (pj := 135) (Lj := [some (.ref (cw_z g + 33)), some (.ref (cw_z g + 32)), some (.int x1), some (.int (q3w39_X4_parse_33_32_tFx n I A J t x1)), some (.int (q4w39_X4_parse_33_32_tFx n I A J t x1)), some (.int (q5w39_X4_parse_33_32_tFx n I A J t x1))]) (stj := [(.int (qs1m118_X4_parse_33_32_tFx n I A J t x1)), (.ref (cw_z g + 33))]) (σj := hp g (qIw39_X4_parse_33_32_tFx n I A J t x1) (qAw39_X4_parse_33_32_tFx n I A J t x1) J (false, true)) ?_ (fun hJ_118 => ?_)
  rotate_left
  · refine ev_if_eq (pc := 118) (tgt := 131) dX4_parse_118 (by decide) (fun c_118 => ?_) (fun c_118 => ?_)
    · refine ev_aload_n (pc := 131) dX4_parse_131 rfl ?_
      refine tv_geti (pc := 132) dX4_parse_132 fl_X4_52 (by decide) rfl rfl ?_
      simp only [qs1m118_X4_parse_33_32_tFx, if_pos c_118] at hJ_118
      exact ev_loc hJ_118 cw_le0
    · refine ev_aload_n (pc := 121) dX4_parse_121 rfl ?_
      refine tv_getr (pc := 122) (d := 34) dX4_parse_122 fl_X4_12 (by decide) rfl rfl ?_
      refine tv_geti (pc := 125) dX4_parse_125 fl_X4_79 (by decide) rfl rfl ?_
      refine ev_goto (pc := 128) (tgt := 135) dX4_parse_128 (by decide) ?_
      simp only [qs1m118_X4_parse_33_32_tFx, if_neg c_118] at hJ_118
      exact ev_loc hJ_118 cw_le0
  refine tw_puti (pc := 135) (I2 := (qI135_X4_parse_33_32_tFx n I A J t x1)) dX4_parse_135 fp_X4_55 (by decide) rfl rfl rfl ?_
  refine ev_iload_n (pc := 138) dX4_parse_138 rfl ?_
  refine ev_cut (pj := 155) (Lj := [some (.ref (cw_z g + 33)), some (.ref (cw_z g + 32)), some (.int x1), some (.int (q3w39_X4_parse_33_32_tFx n I A J t x1)), some (.int (q4w39_X4_parse_33_32_tFx n I A J t x1)), some (.int (q5w39_X4_parse_33_32_tFx n I A J t x1))]) (stj := [(.int (qs0m139_X4_parse_33_32_tFx n I A J t x1))]) (σj := hp g (qI135_X4_parse_33_32_tFx n I A J t x1) (qAw39_X4_parse_33_32_tFx n I A J t x1) J (false, true)) ?_ (fun hJ_139 => ?_)
  rotate_left
  · refine ev_if_ne (pc := 139) (tgt := 154) dX4_parse_139 (by decide) (fun c_139 => ?_) (fun c_139 => ?_)
    · refine ev_iload_n (pc := 154) dX4_parse_154 rfl ?_
      simp only [qs0m139_X4_parse_33_32_tFx, if_neg c_139] at hJ_139
      exact ev_loc hJ_139 cw_le0
    · refine ev_aload_n (pc := 142) dX4_parse_142 rfl ?_
      refine tv_geti (pc := 143) dX4_parse_143 fl_X4_52 (by decide) rfl rfl ?_
      refine ev_iconst (pc := 146) (v := (-1)) dX4_parse_146 (by decide) ?_
      refine ev_cut (pj := 155) (Lj := [some (.ref (cw_z g + 33)), some (.ref (cw_z g + 32)), some (.int x1), some (.int (q3w39_X4_parse_33_32_tFx n I A J t x1)), some (.int (q4w39_X4_parse_33_32_tFx n I A J t x1)), some (.int (q5w39_X4_parse_33_32_tFx n I A J t x1))]) (stj := [(.int (qs0m147_X4_parse_33_32_tFx n I A J t x1))]) (σj := hp g (qI135_X4_parse_33_32_tFx n I A J t x1) (qAw39_X4_parse_33_32_tFx n I A J t x1) J (false, true)) ?_ (fun hJ_147 => ?_)
      rotate_left
      · refine ev_icmp_eq (pc := 147) (tgt := 154) dX4_parse_147 (by decide) (fun c_147 => ?_) (fun c_147 => ?_)
        · refine ev_iload_n (pc := 154) dX4_parse_154 rfl ?_
          simp only [qs0m147_X4_parse_33_32_tFx, if_pos c_147] at hJ_147
          exact ev_loc hJ_147 cw_le0
        · refine ev_iconst (pc := 150) (v := 5) dX4_parse_150 (by decide) ?_
          refine ev_goto (pc := 151) (tgt := 155) dX4_parse_151 (by decide) ?_
          simp only [qs0m147_X4_parse_33_32_tFx, if_neg c_147] at hJ_147
          exact ev_loc hJ_147 cw_le0
      simp only [qs0m139_X4_parse_33_32_tFx, if_pos c_139] at hJ_139
      exact ev_loc hJ_139 cw_le0
  exact ev_iret (pc := 155) dX4_parse_155 rfl (by decide) (by decide) (hQ _ _ ⟨rfl, rfl⟩)

def qI18_X4_parse_33_32_tTx (n : Nat) (I : Nat → Nat → Int32) (A : Nat → Nat → Int32) (J : Nat → Nat → Int64) (t : Bool × Bool) (x1 : Int32) : Nat → Nat → Int32 := cw_u (pI_X7_start_34_32 n (pI_X10_renew_60 n I A J (true, t.2) ) A J (true, t.2) x1) 33 4 0
def qI23_X4_parse_33_32_tTx (n : Nat) (I : Nat → Nat → Int32) (A : Nat → Nat → Int32) (J : Nat → Nat → Int64) (t : Bool × Bool) (x1 : Int32) : Nat → Nat → Int32 := cw_u (qI18_X4_parse_33_32_tTx n I A J t x1) 33 3 0
def qI28_X4_parse_33_32_tTx (n : Nat) (I : Nat → Nat → Int32) (A : Nat → Nat → Int32) (J : Nat → Nat → Int64) (t : Bool × Bool) (x1 : Int32) : Nat → Nat → Int32 := cw_u (qI23_X4_parse_33_32_tTx n I A J t x1) 33 10 (-1)
def q72_X4_parse_33_32_tTx (n : Nat) (I : Nat → Nat → Int32) (A : Nat → Nat → Int32) (J : Nat → Nat → Int64) (t : Bool × Bool) (x1 : Int32) (I39 : Nat → Nat → Int32) (A39 : Nat → Nat → Int32) (v39_3 : Int32) (v39_4 : Int32) (v39_5 : Int32) : Int32 := (px_X4_faultOf_33_tTx n (pI_X7_advance_34_txT n I39 A39 J (true, true) ) A39 J (true, true) ((pI_X7_advance_34_txT n I39 A39 J (true, true) ) 34 3) v39_5)
def qs0m84_X4_parse_33_32_tTx (n : Nat) (I : Nat → Nat → Int32) (A : Nat → Nat → Int32) (J : Nat → Nat → Int64) (t : Bool × Bool) (x1 : Int32) (I39 : Nat → Nat → Int32) (A39 : Nat → Nat → Int32) (v39_3 : Int32) (v39_4 : Int32) (v39_5 : Int32) : Int32 := if ((pI_X7_advance_34_txT n I39 A39 J (true, true) ) 34 3) = 0 then 0 else 1
def qs0m74_X4_parse_33_32_tTx (n : Nat) (I : Nat → Nat → Int32) (A : Nat → Nat → Int32) (J : Nat → Nat → Int64) (t : Bool × Bool) (x1 : Int32) (I39 : Nat → Nat → Int32) (A39 : Nat → Nat → Int32) (v39_3 : Int32) (v39_4 : Int32) (v39_5 : Int32) : Int32 := if (q72_X4_parse_33_32_tTx n I A J t x1 I39 A39 v39_3 v39_4 v39_5) = 0 then (qs0m84_X4_parse_33_32_tTx n I A J t x1 I39 A39 v39_3 v39_4 v39_5) else 0
def qIm96_X4_parse_33_32_tTx (n : Nat) (I : Nat → Nat → Int32) (A : Nat → Nat → Int32) (J : Nat → Nat → Int64) (t : Bool × Bool) (x1 : Int32) (I39 : Nat → Nat → Int32) (A39 : Nat → Nat → Int32) (v39_3 : Int32) (v39_4 : Int32) (v39_5 : Int32) : Nat → Nat → Int32 := if (qs0m74_X4_parse_33_32_tTx n I A J t x1 I39 A39 v39_3 v39_4 v39_5) = 0 then (pI_X7_advance_34_txT n I39 A39 J (true, true) ) else (pI_X4_take_33_tTx n (pI_X7_advance_34_txT n I39 A39 J (true, true) ) A39 J (true, true) ((pI_X7_advance_34_txT n I39 A39 J (true, true) ) 34 3))
def qAm96_X4_parse_33_32_tTx (n : Nat) (I : Nat → Nat → Int32) (A : Nat → Nat → Int32) (J : Nat → Nat → Int64) (t : Bool × Bool) (x1 : Int32) (I39 : Nat → Nat → Int32) (A39 : Nat → Nat → Int32) (v39_3 : Int32) (v39_4 : Int32) (v39_5 : Int32) : Nat → Nat → Int32 := if (qs0m74_X4_parse_33_32_tTx n I A J t x1 I39 A39 v39_3 v39_4 v39_5) = 0 then A39 else (pA_X4_take_33_tTx n (pI_X7_advance_34_txT n I39 A39 J (true, true) ) A39 J (true, true) ((pI_X7_advance_34_txT n I39 A39 J (true, true) ) 34 3))
def q110_X4_parse_33_32_tTx (n : Nat) (I : Nat → Nat → Int32) (A : Nat → Nat → Int32) (J : Nat → Nat → Int64) (t : Bool × Bool) (x1 : Int32) (I39 : Nat → Nat → Int32) (A39 : Nat → Nat → Int32) (v39_3 : Int32) (v39_4 : Int32) (v39_5 : Int32) : Int32 := v39_5 + 1
def lp_X4_parse_33_32_tTx_39 (n : Nat) (I : Nat → Nat → Int32) (A : Nat → Nat → Int32) (J : Nat → Nat → Int64) (t : Bool × Bool) (x1 : Int32) : Nat → (Nat → Nat → Int32) → (Nat → Nat → Int32) → (Int32) → (Int32) → (Int32) → (Nat → Nat → Int32) × (Nat → Nat → Int32) × Int32 × Int32 × Int32
  | 0, I39, A39, v39_3, v39_4, v39_5 => (I39, A39, v39_3, v39_4, v39_5)
  | f + 1, I39, A39, v39_3, v39_4, v39_5 => if 400 < v39_5 then (I39, A39, v39_3, v39_4, v39_5) else if v39_4 = 0 then (I39, A39, v39_3, v39_4, v39_5) else lp_X4_parse_33_32_tTx_39 n I A J t x1 f (qIm96_X4_parse_33_32_tTx n I A J t x1 I39 A39 v39_3 v39_4 v39_5) (qAm96_X4_parse_33_32_tTx n I A J t x1 I39 A39 v39_3 v39_4 v39_5) (q72_X4_parse_33_32_tTx n I A J t x1 I39 A39 v39_3 v39_4 v39_5) (qs0m74_X4_parse_33_32_tTx n I A J t x1 I39 A39 v39_3 v39_4 v39_5) (q110_X4_parse_33_32_tTx n I A J t x1 I39 A39 v39_3 v39_4 v39_5)
def lb_X4_parse_33_32_tTx_39 (n : Nat) (I : Nat → Nat → Int32) (A : Nat → Nat → Int32) (J : Nat → Nat → Int64) (t : Bool × Bool) (x1 : Int32) : Nat → (Nat → Nat → Int32) → (Nat → Nat → Int32) → (Int32) → (Int32) → (Int32) → Prop
  | 0, _, _, _, _, _ => False
  | f + 1, I39, A39, v39_3, v39_4, v39_5 => (¬ 400 < v39_5 → (¬ v39_4 = 0 → pb_X7_advance_34_txT n I39 A39 J (true, true)  ∧ (¬ (qs0m74_X4_parse_33_32_tTx n I A J t x1 I39 A39 v39_3 v39_4 v39_5) = 0 → pb_X4_take_33_tTx n (pI_X7_advance_34_txT n I39 A39 J (true, true) ) A39 J (true, true) ((pI_X7_advance_34_txT n I39 A39 J (true, true) ) 34 3)) ∧ lb_X4_parse_33_32_tTx_39 n I A J t x1 f (qIm96_X4_parse_33_32_tTx n I A J t x1 I39 A39 v39_3 v39_4 v39_5) (qAm96_X4_parse_33_32_tTx n I A J t x1 I39 A39 v39_3 v39_4 v39_5) (q72_X4_parse_33_32_tTx n I A J t x1 I39 A39 v39_3 v39_4 v39_5) (qs0m74_X4_parse_33_32_tTx n I A J t x1 I39 A39 v39_3 v39_4 v39_5) (q110_X4_parse_33_32_tTx n I A J t x1 I39 A39 v39_3 v39_4 v39_5)))
def qIw39_X4_parse_33_32_tTx (n : Nat) (I : Nat → Nat → Int32) (A : Nat → Nat → Int32) (J : Nat → Nat → Int64) (t : Bool × Bool) (x1 : Int32) : Nat → Nat → Int32 := (lp_X4_parse_33_32_tTx_39 n I A J t x1 n (qI28_X4_parse_33_32_tTx n I A J t x1) A 0 1 0).1
def qAw39_X4_parse_33_32_tTx (n : Nat) (I : Nat → Nat → Int32) (A : Nat → Nat → Int32) (J : Nat → Nat → Int64) (t : Bool × Bool) (x1 : Int32) : Nat → Nat → Int32 := (lp_X4_parse_33_32_tTx_39 n I A J t x1 n (qI28_X4_parse_33_32_tTx n I A J t x1) A 0 1 0).2.1
def q3w39_X4_parse_33_32_tTx (n : Nat) (I : Nat → Nat → Int32) (A : Nat → Nat → Int32) (J : Nat → Nat → Int64) (t : Bool × Bool) (x1 : Int32) : Int32 := (lp_X4_parse_33_32_tTx_39 n I A J t x1 n (qI28_X4_parse_33_32_tTx n I A J t x1) A 0 1 0).2.2.1
def q4w39_X4_parse_33_32_tTx (n : Nat) (I : Nat → Nat → Int32) (A : Nat → Nat → Int32) (J : Nat → Nat → Int64) (t : Bool × Bool) (x1 : Int32) : Int32 := (lp_X4_parse_33_32_tTx_39 n I A J t x1 n (qI28_X4_parse_33_32_tTx n I A J t x1) A 0 1 0).2.2.2.1
def q5w39_X4_parse_33_32_tTx (n : Nat) (I : Nat → Nat → Int32) (A : Nat → Nat → Int32) (J : Nat → Nat → Int64) (t : Bool × Bool) (x1 : Int32) : Int32 := (lp_X4_parse_33_32_tTx_39 n I A J t x1 n (qI28_X4_parse_33_32_tTx n I A J t x1) A 0 1 0).2.2.2.2
def qs1m118_X4_parse_33_32_tTx (n : Nat) (I : Nat → Nat → Int32) (A : Nat → Nat → Int32) (J : Nat → Nat → Int64) (t : Bool × Bool) (x1 : Int32) : Int32 := if (q3w39_X4_parse_33_32_tTx n I A J t x1) = 0 then ((qIw39_X4_parse_33_32_tTx n I A J t x1) 33 10) else ((qIw39_X4_parse_33_32_tTx n I A J t x1) 34 4)
def qI135_X4_parse_33_32_tTx (n : Nat) (I : Nat → Nat → Int32) (A : Nat → Nat → Int32) (J : Nat → Nat → Int64) (t : Bool × Bool) (x1 : Int32) : Nat → Nat → Int32 := cw_u (qIw39_X4_parse_33_32_tTx n I A J t x1) 33 11 (qs1m118_X4_parse_33_32_tTx n I A J t x1)
def qs0m147_X4_parse_33_32_tTx (n : Nat) (I : Nat → Nat → Int32) (A : Nat → Nat → Int32) (J : Nat → Nat → Int64) (t : Bool × Bool) (x1 : Int32) : Int32 := if ((qI135_X4_parse_33_32_tTx n I A J t x1) 33 10) = (-1) then (q3w39_X4_parse_33_32_tTx n I A J t x1) else 5
def qs0m139_X4_parse_33_32_tTx (n : Nat) (I : Nat → Nat → Int32) (A : Nat → Nat → Int32) (J : Nat → Nat → Int64) (t : Bool × Bool) (x1 : Int32) : Int32 := if (q3w39_X4_parse_33_32_tTx n I A J t x1) = 0 then (qs0m147_X4_parse_33_32_tTx n I A J t x1) else (q3w39_X4_parse_33_32_tTx n I A J t x1)
def pb_X4_parse_33_32_tTx (n : Nat) (I : Nat → Nat → Int32) (A : Nat → Nat → Int32) (J : Nat → Nat → Int64) (t : Bool × Bool) (x1 : Int32) : Prop := lb_X4_parse_33_32_tTx_39 n I A J t x1 n (qI28_X4_parse_33_32_tTx n I A J t x1) A 0 1 0
def px_X4_parse_33_32_tTx (n : Nat) (I : Nat → Nat → Int32) (A : Nat → Nat → Int32) (J : Nat → Nat → Int64) (t : Bool × Bool) (x1 : Int32) : Int32 := (qs0m139_X4_parse_33_32_tTx n I A J t x1)
def pI_X4_parse_33_32_tTx (n : Nat) (I : Nat → Nat → Int32) (A : Nat → Nat → Int32) (J : Nat → Nat → Int64) (t : Bool × Bool) (x1 : Int32) : Nat → Nat → Int32 := (qI135_X4_parse_33_32_tTx n I A J t x1)
def pA_X4_parse_33_32_tTx (n : Nat) (I : Nat → Nat → Int32) (A : Nat → Nat → Int32) (J : Nat → Nat → Int64) (t : Bool × Bool) (x1 : Int32) : Nat → Nat → Int32 := (qAw39_X4_parse_33_32_tTx n I A J t x1)
set_option maxRecDepth 100000 in
set_option maxHeartbeats 4000000 in
theorem lt_X4_parse_33_32_tTx_39 (g : cw_G) (n : Nat) (I : Nat → Nat → Int32) (A : Nat → Nat → Int32) (J : Nat → Nat → Int64) (t : Bool × Bool) (x1 : Int32) {Q : Option Value → cw_H → Prop} : ∀ (f : Nat) (I39 : Nat → Nat → Int32) (A39 : Nat → Nat → Int32) (v39_3 : Int32) (v39_4 : Int32) (v39_5 : Int32) (w0 : Nat → Nat → Int32) (w1 : Nat → Nat → Int32) (w2 : Int32) (w3 : Int32) (w4 : Int32), lb_X4_parse_33_32_tTx_39 n I A J t x1 f I39 A39 v39_3 v39_4 v39_5 → (lp_X4_parse_33_32_tTx_39 n I A J t x1 f I39 A39 v39_3 v39_4 v39_5).1 = w0 → (lp_X4_parse_33_32_tTx_39 n I A J t x1 f I39 A39 v39_3 v39_4 v39_5).2.1 = w1 → (lp_X4_parse_33_32_tTx_39 n I A J t x1 f I39 A39 v39_3 v39_4 v39_5).2.2.1 = w2 → (lp_X4_parse_33_32_tTx_39 n I A J t x1 f I39 A39 v39_3 v39_4 v39_5).2.2.2.1 = w3 → (lp_X4_parse_33_32_tTx_39 n I A J t x1 f I39 A39 v39_3 v39_4 v39_5).2.2.2.2 = w4 → Ev g mX4_parse 0 0 116 [some (.ref (cw_z g + 33)), some (.ref (cw_z g + 32)), some (.int x1), some (.int w2), some (.int w3), some (.int w4)] [] (hp g w0 w1 J (true, true)) Q → Ev g mX4_parse 0 0 39 [some (.ref (cw_z g + 33)), some (.ref (cw_z g + 32)), some (.int x1), some (.int v39_3), some (.int v39_4), some (.int v39_5)] [] (hp g I39 A39 J (true, true)) Q := by
  intro f
  induction f with
  | zero =>
    intro I39 A39 v39_3 v39_4 v39_5 w0 w1 w2 w3 w4 hb
    exact hb.elim
  | succ f ih =>
    intro I39 A39 v39_3 v39_4 v39_5 w0 w1 w2 w3 w4 hb h0 h1 h2 h3 h4 hE
    rw [lb_X4_parse_33_32_tTx_39] at hb
    rw [lp_X4_parse_33_32_tTx_39] at h0 h1 h2 h3 h4
    refine ev_iload (pc := 39) dX4_parse_39 rfl ?_
    refine ev_sipush (pc := 41) (v := 400) dX4_parse_41 (by decide) ?_
    have hF_44 := hb
    refine ev_icmp_gt (pc := 44) (tgt := 116) dX4_parse_44 (by decide) (fun c_44 => ?_) (fun c_44 => ?_)
    · try simp only [if_pos c_44] at h0
      try simp only [if_pos c_44] at h1
      try simp only [if_pos c_44] at h2
      try simp only [if_pos c_44] at h3
      try simp only [if_pos c_44] at h4
      subst h0
      subst h1
      subst h2
      subst h3
      subst h4
      exact ev_loc hE cw_le0
    · have hb := hF_44 c_44
      try simp only [if_neg c_44] at h0
      try simp only [if_neg c_44] at h1
      try simp only [if_neg c_44] at h2
      try simp only [if_neg c_44] at h3
      try simp only [if_neg c_44] at h4
      refine ev_iload (pc := 47) dX4_parse_47 rfl ?_
      have hF_49 := hb
      refine ev_if_eq (pc := 49) (tgt := 116) dX4_parse_49 (by decide) (fun c_49 => ?_) (fun c_49 => ?_)
      · try simp only [if_pos c_49] at h0
        try simp only [if_pos c_49] at h1
        try simp only [if_pos c_49] at h2
        try simp only [if_pos c_49] at h3
        try simp only [if_pos c_49] at h4
        subst h0
        subst h1
        subst h2
        subst h3
        subst h4
        exact ev_loc hE cw_le0
      · have hb := hF_49 c_49
        try simp only [if_neg c_49] at h0
        try simp only [if_neg c_49] at h1
        try simp only [if_neg c_49] at h2
        try simp only [if_neg c_49] at h3
        try simp only [if_neg c_49] at h4
        refine ev_aload_n (pc := 52) dX4_parse_52 rfl ?_
        refine tv_getr (pc := 53) (d := 34) dX4_parse_53 fl_X4_12 (by decide) rfl rfl ?_
        refine ev_Vv (pc := 56) dX4_parse_56 lk_X4_65 cd_X7_advance ar_X7_advance ⟨by decide, rfl, rfl⟩ (cv_X7_advance_34_txT g n I39 A39 J (true, true)  hb.1) (show 34 < 120 by decide) rfl rfl rfl rfl (Nat.le_of_ble_eq_true rfl) ⟨by decide, by decide⟩ ?_
        replace hb := hb.2
        refine ev_aload_n (pc := 59) dX4_parse_59 rfl ?_
        refine ev_aload_n (pc := 60) dX4_parse_60 rfl ?_
        refine tv_getr (pc := 61) (d := 34) dX4_parse_61 fl_X4_12 (by decide) rfl rfl ?_
        refine tv_geti (pc := 64) dX4_parse_64 fl_X4_68 (by decide) rfl rfl ?_
        refine ev_iload (pc := 67) dX4_parse_67 rfl ?_
        refine ev_Vi (pc := 69) dX4_parse_69 lk_X4_71 cd_X4_faultOf ar_X4_faultOf ⟨by decide, rfl, rfl⟩ (cv_X4_faultOf_33_tTx g n (pI_X7_advance_34_txT n I39 A39 J (true, true) ) A39 J (true, true) ((pI_X7_advance_34_txT n I39 A39 J (true, true) ) 34 3) v39_5) (show 33 < 120 by decide) rfl rfl rfl rfl (Nat.le_of_ble_eq_true rfl) ⟨by decide, by decide⟩ ?_
        refine ev_is (y := (q72_X4_parse_33_32_tTx n I A J t x1 I39 A39 v39_3 v39_4 v39_5)) rfl ?_
        refine ev_istore_3 (pc := 72) dX4_parse_72 (by decide) rfl ?_
        refine ev_iload_n (pc := 73) dX4_parse_73 rfl ?_
        refine ev_cut (pj := 92) (Lj := [some (.ref (cw_z g + 33)), some (.ref (cw_z g + 32)), some (.int x1), some (.int (q72_X4_parse_33_32_tTx n I A J t x1 I39 A39 v39_3 v39_4 v39_5)), some (.int v39_4), some (.int v39_5)]) (stj := [(.int (qs0m74_X4_parse_33_32_tTx n I A J t x1 I39 A39 v39_3 v39_4 v39_5))]) (σj := hp g (pI_X7_advance_34_txT n I39 A39 J (true, true) ) A39 J (true, true)) ?_ (fun hJ_74 => ?_)
        rotate_left
        · refine ev_if_ne (pc := 74) (tgt := 91) dX4_parse_74 (by decide) (fun c_74 => ?_) (fun c_74 => ?_)
          · refine ev_iconst (pc := 91) (v := 0) dX4_parse_91 (by decide) ?_
            simp only [qs0m74_X4_parse_33_32_tTx, if_neg c_74] at hJ_74
            exact ev_loc hJ_74 cw_le0
          · refine ev_aload_n (pc := 77) dX4_parse_77 rfl ?_
            refine tv_getr (pc := 78) (d := 34) dX4_parse_78 fl_X4_12 (by decide) rfl rfl ?_
            refine tv_geti (pc := 81) dX4_parse_81 fl_X4_68 (by decide) rfl rfl ?_
            refine ev_cut (pj := 92) (Lj := [some (.ref (cw_z g + 33)), some (.ref (cw_z g + 32)), some (.int x1), some (.int (q72_X4_parse_33_32_tTx n I A J t x1 I39 A39 v39_3 v39_4 v39_5)), some (.int v39_4), some (.int v39_5)]) (stj := [(.int (qs0m84_X4_parse_33_32_tTx n I A J t x1 I39 A39 v39_3 v39_4 v39_5))]) (σj := hp g (pI_X7_advance_34_txT n I39 A39 J (true, true) ) A39 J (true, true)) ?_ (fun hJ_84 => ?_)
            rotate_left
            · refine ev_if_eq (pc := 84) (tgt := 91) dX4_parse_84 (by decide) (fun c_84 => ?_) (fun c_84 => ?_)
              · refine ev_iconst (pc := 91) (v := 0) dX4_parse_91 (by decide) ?_
                simp only [qs0m84_X4_parse_33_32_tTx, if_pos c_84] at hJ_84
                exact ev_loc hJ_84 cw_le0
              · refine ev_iconst (pc := 87) (v := 1) dX4_parse_87 (by decide) ?_
                refine ev_goto (pc := 88) (tgt := 92) dX4_parse_88 (by decide) ?_
                simp only [qs0m84_X4_parse_33_32_tTx, if_neg c_84] at hJ_84
                exact ev_loc hJ_84 cw_le0
            simp only [qs0m74_X4_parse_33_32_tTx, if_pos c_74] at hJ_74
            exact ev_loc hJ_74 cw_le0
        refine ev_istore_4 (pc := 92) dX4_parse_92 (by decide) rfl ?_
        refine ev_iload (pc := 94) dX4_parse_94 rfl ?_
        obtain ⟨hF_96, hb⟩ := hb
        refine ev_cut (pj := 110) (Lj := [some (.ref (cw_z g + 33)), some (.ref (cw_z g + 32)), some (.int x1), some (.int (q72_X4_parse_33_32_tTx n I A J t x1 I39 A39 v39_3 v39_4 v39_5)), some (.int (qs0m74_X4_parse_33_32_tTx n I A J t x1 I39 A39 v39_3 v39_4 v39_5)), some (.int v39_5)]) (stj := []) (σj := hp g (qIm96_X4_parse_33_32_tTx n I A J t x1 I39 A39 v39_3 v39_4 v39_5) (qAm96_X4_parse_33_32_tTx n I A J t x1 I39 A39 v39_3 v39_4 v39_5) J (true, true)) ?_ (fun hJ_96 => ?_)
        rotate_left
        · refine ev_if_eq (pc := 96) (tgt := 110) dX4_parse_96 (by decide) (fun c_96 => ?_) (fun c_96 => ?_)
          · simp only [qIm96_X4_parse_33_32_tTx, qAm96_X4_parse_33_32_tTx, if_pos c_96] at hJ_96
            exact ev_loc hJ_96 cw_le0
          · have hb := hF_96 c_96
            refine ev_aload_n (pc := 99) dX4_parse_99 rfl ?_
            refine ev_aload_n (pc := 100) dX4_parse_100 rfl ?_
            refine tv_getr (pc := 101) (d := 34) dX4_parse_101 fl_X4_12 (by decide) rfl rfl ?_
            refine tv_geti (pc := 104) dX4_parse_104 fl_X4_68 (by decide) rfl rfl ?_
            refine ev_Vv (pc := 107) dX4_parse_107 lk_X4_75 cd_X4_take ar_X4_take ⟨by decide, rfl, rfl⟩ (cv_X4_take_33_tTx g n (pI_X7_advance_34_txT n I39 A39 J (true, true) ) A39 J (true, true) ((pI_X7_advance_34_txT n I39 A39 J (true, true) ) 34 3) hb) (show 33 < 120 by decide) rfl rfl rfl rfl (Nat.le_of_ble_eq_true rfl) ⟨by decide, by decide⟩ ?_
            simp only [qIm96_X4_parse_33_32_tTx, qAm96_X4_parse_33_32_tTx, if_neg c_96] at hJ_96
            exact ev_loc hJ_96 cw_le0
        refine ev_iinc_5 (pc := 110) (v := (q110_X4_parse_33_32_tTx n I A J t x1 I39 A39 v39_3 v39_4 v39_5)) dX4_parse_110 (by decide) rfl rfl ?_
        refine ev_goto (pc := 113) (tgt := 39) dX4_parse_113 (by decide) ?_
        exact ev_loc (ih (qIm96_X4_parse_33_32_tTx n I A J t x1 I39 A39 v39_3 v39_4 v39_5) (qAm96_X4_parse_33_32_tTx n I A J t x1 I39 A39 v39_3 v39_4 v39_5) (q72_X4_parse_33_32_tTx n I A J t x1 I39 A39 v39_3 v39_4 v39_5) (qs0m74_X4_parse_33_32_tTx n I A J t x1 I39 A39 v39_3 v39_4 v39_5) (q110_X4_parse_33_32_tTx n I A J t x1 I39 A39 v39_3 v39_4 v39_5) w0 w1 w2 w3 w4 hb h0 h1 h2 h3 h4 hE) cw_le0

set_option maxRecDepth 100000 in
set_option maxHeartbeats 4000000 in
theorem cv_X4_parse_33_32_tTx (g : cw_G) (n : Nat) (I : Nat → Nat → Int32) (A : Nat → Nat → Int32) (J : Nat → Nat → Int64) (t : Bool × Bool) (x1 : Int32) (hb : pb_X4_parse_33_32_tTx n I A J t x1) : Cd g mX4_parse [(.ref (cw_z g + 33)), (.ref (cw_z g + 32)), (.int x1)] (hp g I A J (true, t.2)) (some (.int (px_X4_parse_33_32_tTx n I A J t x1))) (hp g (pI_X4_parse_33_32_tTx n I A J t x1) (pA_X4_parse_33_32_tTx n I A J t x1) J (true, true)) := by
  unfold pb_X4_parse_33_32_tTx at hb
  unfold px_X4_parse_33_32_tTx pI_X4_parse_33_32_tTx pA_X4_parse_33_32_tTx
  refine Cd.of rfl (Nat.le_of_ble_eq_true rfl) (ev_gen (fun Q hQ => ?_))
  refine ev_aload_n (pc := 0) dX4_parse_0 rfl ?_
  refine tv_getr (pc := 1) (d := 60) dX4_parse_1 fl_X4_25 (by decide) rfl rfl ?_
  refine ev_Vv (pc := 4) dX4_parse_4 lk_X4_58 cd_X10_renew ar_X10_renew ⟨by decide, rfl, rfl⟩ (cv_X10_renew_60 g n I A J (true, t.2) ) (show 60 < 120 by decide) rfl rfl rfl rfl (Nat.le_of_ble_eq_true rfl) ⟨by decide, by decide⟩ ?_
  refine ev_aload_n (pc := 7) dX4_parse_7 rfl ?_
  refine tv_getr (pc := 8) (d := 34) dX4_parse_8 fl_X4_12 (by decide) rfl rfl ?_
  refine ev_aload_n (pc := 11) dX4_parse_11 rfl ?_
  refine ev_iload_n (pc := 12) dX4_parse_12 rfl ?_
  refine ev_Vv (pc := 13) dX4_parse_13 lk_X4_61 cd_X7_start ar_X7_start ⟨by decide, rfl, rfl⟩ (cv_X7_start_34_32 g n (pI_X10_renew_60 n I A J (true, t.2) ) A J (true, t.2) x1) (show 34 < 120 by decide) rfl rfl rfl rfl (Nat.le_of_ble_eq_true rfl) ⟨by decide, by decide⟩ ?_
  refine ev_aload_n (pc := 16) dX4_parse_16 rfl ?_
  refine ev_iconst (pc := 17) (v := 0) dX4_parse_17 (by decide) ?_
  refine tw_puti (pc := 18) (I2 := (qI18_X4_parse_33_32_tTx n I A J t x1)) dX4_parse_18 fp_X4_33 (by decide) rfl rfl rfl ?_
  refine ev_aload_n (pc := 21) dX4_parse_21 rfl ?_
  refine ev_iconst (pc := 22) (v := 0) dX4_parse_22 (by decide) ?_
  refine tw_puti (pc := 23) (I2 := (qI23_X4_parse_33_32_tTx n I A J t x1)) dX4_parse_23 fp_X4_29 (by decide) rfl rfl rfl ?_
  refine ev_aload_n (pc := 26) dX4_parse_26 rfl ?_
  refine ev_iconst (pc := 27) (v := (-1)) dX4_parse_27 (by decide) ?_
  refine tw_puti (pc := 28) (I2 := (qI28_X4_parse_33_32_tTx n I A J t x1)) dX4_parse_28 fp_X4_52 (by decide) rfl rfl rfl ?_
  refine ev_iconst (pc := 31) (v := 0) dX4_parse_31 (by decide) ?_
  refine ev_istore_3 (pc := 32) dX4_parse_32 (by decide) rfl ?_
  refine ev_iconst (pc := 33) (v := 1) dX4_parse_33 (by decide) ?_
  refine ev_istore_4 (pc := 34) dX4_parse_34 (by decide) rfl ?_
  refine ev_iconst (pc := 36) (v := 0) dX4_parse_36 (by decide) ?_
  refine ev_istore_5 (pc := 37) dX4_parse_37 (by decide) rfl ?_
  refine lt_X4_parse_33_32_tTx_39 g n I A J t x1 n (qI28_X4_parse_33_32_tTx n I A J t x1) A 0 1 0 (qIw39_X4_parse_33_32_tTx n I A J t x1) (qAw39_X4_parse_33_32_tTx n I A J t x1) (q3w39_X4_parse_33_32_tTx n I A J t x1) (q4w39_X4_parse_33_32_tTx n I A J t x1) (q5w39_X4_parse_33_32_tTx n I A J t x1) hb rfl rfl rfl rfl rfl ?_
  refine ev_aload_n (pc := 116) dX4_parse_116 rfl ?_
  refine ev_iload_n (pc := 117) dX4_parse_117 rfl ?_
  refine ev_cut (pj := 135) (Lj := [some (.ref (cw_z g + 33)), some (.ref (cw_z g + 32)), some (.int x1), some (.int (q3w39_X4_parse_33_32_tTx n I A J t x1)), some (.int (q4w39_X4_parse_33_32_tTx n I A J t x1)), some (.int (q5w39_X4_parse_33_32_tTx n I A J t x1))]) (stj := [(.int (qs1m118_X4_parse_33_32_tTx n I A J t x1)), (.ref (cw_z g + 33))]) (σj := hp g (qIw39_X4_parse_33_32_tTx n I A J t x1) (qAw39_X4_parse_33_32_tTx n I A J t x1) J (true, true)) ?_ (fun hJ_118 => ?_)
  rotate_left
  · refine ev_if_eq (pc := 118) (tgt := 131) dX4_parse_118 (by decide) (fun c_118 => ?_) (fun c_118 => ?_)
    · refine ev_aload_n (pc := 131) dX4_parse_131 rfl ?_
      refine tv_geti (pc := 132) dX4_parse_132 fl_X4_52 (by decide) rfl rfl ?_
      simp only [qs1m118_X4_parse_33_32_tTx, if_pos c_118] at hJ_118
      exact ev_loc hJ_118 cw_le0
    · refine ev_aload_n (pc := 121) dX4_parse_121 rfl ?_
      refine tv_getr (pc := 122) (d := 34) dX4_parse_122 fl_X4_12 (by decide) rfl rfl ?_
      refine tv_geti (pc := 125) dX4_parse_125 fl_X4_79 (by decide) rfl rfl ?_
      refine ev_goto (pc := 128) (tgt := 135) dX4_parse_128 (by decide) ?_
      simp only [qs1m118_X4_parse_33_32_tTx, if_neg c_118] at hJ_118
      exact ev_loc hJ_118 cw_le0
  refine tw_puti (pc := 135) (I2 := (qI135_X4_parse_33_32_tTx n I A J t x1)) dX4_parse_135 fp_X4_55 (by decide) rfl rfl rfl ?_
  refine ev_iload_n (pc := 138) dX4_parse_138 rfl ?_
  refine ev_cut (pj := 155) (Lj := [some (.ref (cw_z g + 33)), some (.ref (cw_z g + 32)), some (.int x1), some (.int (q3w39_X4_parse_33_32_tTx n I A J t x1)), some (.int (q4w39_X4_parse_33_32_tTx n I A J t x1)), some (.int (q5w39_X4_parse_33_32_tTx n I A J t x1))]) (stj := [(.int (qs0m139_X4_parse_33_32_tTx n I A J t x1))]) (σj := hp g (qI135_X4_parse_33_32_tTx n I A J t x1) (qAw39_X4_parse_33_32_tTx n I A J t x1) J (true, true)) ?_ (fun hJ_139 => ?_)
  rotate_left
  · refine ev_if_ne (pc := 139) (tgt := 154) dX4_parse_139 (by decide) (fun c_139 => ?_) (fun c_139 => ?_)
    · refine ev_iload_n (pc := 154) dX4_parse_154 rfl ?_
      simp only [qs0m139_X4_parse_33_32_tTx, if_neg c_139] at hJ_139
      exact ev_loc hJ_139 cw_le0
    · refine ev_aload_n (pc := 142) dX4_parse_142 rfl ?_
      refine tv_geti (pc := 143) dX4_parse_143 fl_X4_52 (by decide) rfl rfl ?_
      refine ev_iconst (pc := 146) (v := (-1)) dX4_parse_146 (by decide) ?_
      refine ev_cut (pj := 155) (Lj := [some (.ref (cw_z g + 33)), some (.ref (cw_z g + 32)), some (.int x1), some (.int (q3w39_X4_parse_33_32_tTx n I A J t x1)), some (.int (q4w39_X4_parse_33_32_tTx n I A J t x1)), some (.int (q5w39_X4_parse_33_32_tTx n I A J t x1))]) (stj := [(.int (qs0m147_X4_parse_33_32_tTx n I A J t x1))]) (σj := hp g (qI135_X4_parse_33_32_tTx n I A J t x1) (qAw39_X4_parse_33_32_tTx n I A J t x1) J (true, true)) ?_ (fun hJ_147 => ?_)
      rotate_left
      · refine ev_icmp_eq (pc := 147) (tgt := 154) dX4_parse_147 (by decide) (fun c_147 => ?_) (fun c_147 => ?_)
        · refine ev_iload_n (pc := 154) dX4_parse_154 rfl ?_
          simp only [qs0m147_X4_parse_33_32_tTx, if_pos c_147] at hJ_147
          exact ev_loc hJ_147 cw_le0
        · refine ev_iconst (pc := 150) (v := 5) dX4_parse_150 (by decide) ?_
          refine ev_goto (pc := 151) (tgt := 155) dX4_parse_151 (by decide) ?_
          simp only [qs0m147_X4_parse_33_32_tTx, if_neg c_147] at hJ_147
          exact ev_loc hJ_147 cw_le0
      simp only [qs0m139_X4_parse_33_32_tTx, if_pos c_139] at hJ_139
      exact ev_loc hJ_139 cw_le0
  exact ev_iret (pc := 155) dX4_parse_155 rfl (by decide) (by decide) (hQ _ _ ⟨rfl, rfl⟩)
