def q66_X12_value_68 (n : Nat) (I : Nat → Nat → Int32) (A : Nat → Nat → Int32) (J : Nat → Nat → Int64) (t : Bool × Bool) (x1 : Int32) (x2 : Int32) (A5 : Nat → Nat → Int32) (v5_3 : Int32) (v5_4 : Int32) : Int32 := v5_3 + (-1)
def q77_X12_value_68 (n : Nat) (I : Nat → Nat → Int32) (A : Nat → Nat → Int32) (J : Nat → Nat → Int64) (t : Bool × Bool) (x1 : Int32) (x2 : Int32) (A5 : Nat → Nat → Int32) (v5_3 : Int32) (v5_4 : Int32) : Int32 := (A5 108 (((q66_X12_value_68 n I A J t x1 x2 A5 v5_3 v5_4) - 1)).toNatClampNeg)
def q85_X12_value_68 (n : Nat) (I : Nat → Nat → Int32) (A : Nat → Nat → Int32) (J : Nat → Nat → Int64) (t : Bool × Bool) (x1 : Int32) (x2 : Int32) (A5 : Nat → Nat → Int32) (v5_3 : Int32) (v5_4 : Int32) : Int32 := (A5 108 ((q66_X12_value_68 n I A J t x1 x2 A5 v5_3 v5_4)).toNatClampNeg)
def qs2m121_X12_value_68 (n : Nat) (I : Nat → Nat → Int32) (A : Nat → Nat → Int32) (J : Nat → Nat → Int64) (t : Bool × Bool) (x1 : Int32) (x2 : Int32) (A5 : Nat → Nat → Int32) (v5_3 : Int32) (v5_4 : Int32) : Int32 := if (A5 86 (v5_4).toNatClampNeg) = 3 then ((q77_X12_value_68 n I A J t x1 x2 A5 v5_3 v5_4) - (q85_X12_value_68 n I A J t x1 x2 A5 v5_3 v5_4)) else ((q77_X12_value_68 n I A J t x1 x2 A5 v5_3 v5_4) * (q85_X12_value_68 n I A J t x1 x2 A5 v5_3 v5_4))
def qs2m102_X12_value_68 (n : Nat) (I : Nat → Nat → Int32) (A : Nat → Nat → Int32) (J : Nat → Nat → Int64) (t : Bool × Bool) (x1 : Int32) (x2 : Int32) (A5 : Nat → Nat → Int32) (v5_3 : Int32) (v5_4 : Int32) : Int32 := if (A5 86 (v5_4).toNatClampNeg) = 2 then ((q77_X12_value_68 n I A J t x1 x2 A5 v5_3 v5_4) + (q85_X12_value_68 n I A J t x1 x2 A5 v5_3 v5_4)) else (qs2m121_X12_value_68 n I A J t x1 x2 A5 v5_3 v5_4)
def qA137_X12_value_68 (n : Nat) (I : Nat → Nat → Int32) (A : Nat → Nat → Int32) (J : Nat → Nat → Int64) (t : Bool × Bool) (x1 : Int32) (x2 : Int32) (A5 : Nat → Nat → Int32) (v5_3 : Int32) (v5_4 : Int32) : Nat → Nat → Int32 := cw_u A5 108 (((q66_X12_value_68 n I A J t x1 x2 A5 v5_3 v5_4) - 1)).toNatClampNeg (qs2m102_X12_value_68 n I A J t x1 x2 A5 v5_3 v5_4)
def qs2m34_X12_value_68 (n : Nat) (I : Nat → Nat → Int32) (A : Nat → Nat → Int32) (J : Nat → Nat → Int64) (t : Bool × Bool) (x1 : Int32) (x2 : Int32) (A5 : Nat → Nat → Int32) (v5_3 : Int32) (v5_4 : Int32) : Int32 := if (A5 86 (v5_4).toNatClampNeg) = 0 then (A5 87 (v5_4).toNatClampNeg) else (A5 107 ((A5 87 (v5_4).toNatClampNeg)).toNatClampNeg)
def qA59_X12_value_68 (n : Nat) (I : Nat → Nat → Int32) (A : Nat → Nat → Int32) (J : Nat → Nat → Int64) (t : Bool × Bool) (x1 : Int32) (x2 : Int32) (A5 : Nat → Nat → Int32) (v5_3 : Int32) (v5_4 : Int32) : Nat → Nat → Int32 := cw_u A5 108 (v5_3).toNatClampNeg (qs2m34_X12_value_68 n I A J t x1 x2 A5 v5_3 v5_4)
def q60_X12_value_68 (n : Nat) (I : Nat → Nat → Int32) (A : Nat → Nat → Int32) (J : Nat → Nat → Int64) (t : Bool × Bool) (x1 : Int32) (x2 : Int32) (A5 : Nat → Nat → Int32) (v5_3 : Int32) (v5_4 : Int32) : Int32 := v5_3 + 1
def qAm19_X12_value_68 (n : Nat) (I : Nat → Nat → Int32) (A : Nat → Nat → Int32) (J : Nat → Nat → Int64) (t : Bool × Bool) (x1 : Int32) (x2 : Int32) (A5 : Nat → Nat → Int32) (v5_3 : Int32) (v5_4 : Int32) : Nat → Nat → Int32 := if 2 ≤ (A5 86 (v5_4).toNatClampNeg) then (qA137_X12_value_68 n I A J t x1 x2 A5 v5_3 v5_4) else (qA59_X12_value_68 n I A J t x1 x2 A5 v5_3 v5_4)
def ql3m19_X12_value_68 (n : Nat) (I : Nat → Nat → Int32) (A : Nat → Nat → Int32) (J : Nat → Nat → Int64) (t : Bool × Bool) (x1 : Int32) (x2 : Int32) (A5 : Nat → Nat → Int32) (v5_3 : Int32) (v5_4 : Int32) : Int32 := if 2 ≤ (A5 86 (v5_4).toNatClampNeg) then (q66_X12_value_68 n I A J t x1 x2 A5 v5_3 v5_4) else (q60_X12_value_68 n I A J t x1 x2 A5 v5_3 v5_4)
def q138_X12_value_68 (n : Nat) (I : Nat → Nat → Int32) (A : Nat → Nat → Int32) (J : Nat → Nat → Int64) (t : Bool × Bool) (x1 : Int32) (x2 : Int32) (A5 : Nat → Nat → Int32) (v5_3 : Int32) (v5_4 : Int32) : Int32 := v5_4 + 1
def lp_X12_value_68_5 (n : Nat) (I : Nat → Nat → Int32) (A : Nat → Nat → Int32) (J : Nat → Nat → Int64) (t : Bool × Bool) (x1 : Int32) (x2 : Int32) : Nat → (Nat → Nat → Int32) → (Int32) → (Int32) → (Nat → Nat → Int32) × Int32 × Int32
  | 0, A5, v5_3, v5_4 => (A5, v5_3, v5_4)
  | f + 1, A5, v5_3, v5_4 => if x2 ≤ v5_4 then (A5, v5_3, v5_4) else lp_X12_value_68_5 n I A J t x1 x2 f (qAm19_X12_value_68 n I A J t x1 x2 A5 v5_3 v5_4) (ql3m19_X12_value_68 n I A J t x1 x2 A5 v5_3 v5_4) (q138_X12_value_68 n I A J t x1 x2 A5 v5_3 v5_4)
def lb_X12_value_68_5 (n : Nat) (I : Nat → Nat → Int32) (A : Nat → Nat → Int32) (J : Nat → Nat → Int64) (t : Bool × Bool) (x1 : Int32) (x2 : Int32) : Nat → (Nat → Nat → Int32) → (Int32) → (Int32) → Prop
  | 0, _, _, _ => False
  | f + 1, A5, v5_3, v5_4 => (¬ x2 ≤ v5_4 → vp_in v5_4 1000 ∧ (2 ≤ (A5 86 (v5_4).toNatClampNeg) → vp_in ((q66_X12_value_68 n I A J t x1 x2 A5 v5_3 v5_4) - 1) 500 ∧ vp_in (q66_X12_value_68 n I A J t x1 x2 A5 v5_3 v5_4) 500 ∧ vp_in v5_4 1000 ∧ (¬ (A5 86 (v5_4).toNatClampNeg) = 2 → vp_in v5_4 1000) ∧ vp_in ((q66_X12_value_68 n I A J t x1 x2 A5 v5_3 v5_4) - 1) 500) ∧ (¬ 2 ≤ (A5 86 (v5_4).toNatClampNeg) → vp_in v5_4 1000 ∧ (¬ (A5 86 (v5_4).toNatClampNeg) = 0 → vp_in v5_4 1000 ∧ vp_in (A5 87 (v5_4).toNatClampNeg) 8) ∧ ((A5 86 (v5_4).toNatClampNeg) = 0 → vp_in v5_4 1000) ∧ vp_in v5_3 500) ∧ lb_X12_value_68_5 n I A J t x1 x2 f (qAm19_X12_value_68 n I A J t x1 x2 A5 v5_3 v5_4) (ql3m19_X12_value_68 n I A J t x1 x2 A5 v5_3 v5_4) (q138_X12_value_68 n I A J t x1 x2 A5 v5_3 v5_4))
def qAw5_X12_value_68 (n : Nat) (I : Nat → Nat → Int32) (A : Nat → Nat → Int32) (J : Nat → Nat → Int64) (t : Bool × Bool) (x1 : Int32) (x2 : Int32) : Nat → Nat → Int32 := (lp_X12_value_68_5 n I A J t x1 x2 n A 0 x1).1
def q3w5_X12_value_68 (n : Nat) (I : Nat → Nat → Int32) (A : Nat → Nat → Int32) (J : Nat → Nat → Int64) (t : Bool × Bool) (x1 : Int32) (x2 : Int32) : Int32 := (lp_X12_value_68_5 n I A J t x1 x2 n A 0 x1).2.1
def q4w5_X12_value_68 (n : Nat) (I : Nat → Nat → Int32) (A : Nat → Nat → Int32) (J : Nat → Nat → Int64) (t : Bool × Bool) (x1 : Int32) (x2 : Int32) : Int32 := (lp_X12_value_68_5 n I A J t x1 x2 n A 0 x1).2.2
def pb_X12_value_68 (n : Nat) (I : Nat → Nat → Int32) (A : Nat → Nat → Int32) (J : Nat → Nat → Int64) (t : Bool × Bool) (x1 : Int32) (x2 : Int32) : Prop := lb_X12_value_68_5 n I A J t x1 x2 n A 0 x1 ∧ vp_in 0 500
def px_X12_value_68 (n : Nat) (I : Nat → Nat → Int32) (A : Nat → Nat → Int32) (J : Nat → Nat → Int64) (t : Bool × Bool) (x1 : Int32) (x2 : Int32) : Int32 := ((qAw5_X12_value_68 n I A J t x1 x2) 108 ((0 : Int32)).toNatClampNeg)
def pA_X12_value_68 (n : Nat) (I : Nat → Nat → Int32) (A : Nat → Nat → Int32) (J : Nat → Nat → Int64) (t : Bool × Bool) (x1 : Int32) (x2 : Int32) : Nat → Nat → Int32 := (qAw5_X12_value_68 n I A J t x1 x2)
set_option maxRecDepth 100000 in
set_option maxHeartbeats 4000000 in
theorem lt_X12_value_68_5 (g : cw_G) (n : Nat) (I : Nat → Nat → Int32) (A : Nat → Nat → Int32) (J : Nat → Nat → Int64) (t : Bool × Bool) (x1 : Int32) (x2 : Int32) {Q : Option Value → cw_H → Prop} : ∀ (f : Nat) (A5 : Nat → Nat → Int32) (v5_3 : Int32) (v5_4 : Int32) (w0 : Nat → Nat → Int32) (w1 : Int32) (w2 : Int32), lb_X12_value_68_5 n I A J t x1 x2 f A5 v5_3 v5_4 → (lp_X12_value_68_5 n I A J t x1 x2 f A5 v5_3 v5_4).1 = w0 → (lp_X12_value_68_5 n I A J t x1 x2 f A5 v5_3 v5_4).2.1 = w1 → (lp_X12_value_68_5 n I A J t x1 x2 f A5 v5_3 v5_4).2.2 = w2 → Ev g mX12_value 0 0 144 [some (.ref (cw_z g + 68)), some (.int x1), some (.int x2), some (.int w1), some (.int w2), none, none] [] (hp g I w0 J t) Q → Ev g mX12_value 0 0 5 [some (.ref (cw_z g + 68)), some (.int x1), some (.int x2), some (.int v5_3), some (.int v5_4), none, none] [] (hp g I A5 J t) Q := by
  intro f
  induction f with
  | zero =>
    intro A5 v5_3 v5_4 w0 w1 w2 hb
    exact hb.elim
  | succ f ih =>
    intro A5 v5_3 v5_4 w0 w1 w2 hb h0 h1 h2 hE
    rw [lb_X12_value_68_5] at hb
    rw [lp_X12_value_68_5] at h0 h1 h2
    refine ev_iload (pc := 5) dX12_value_5 rfl ?_
    refine ev_iload_n (pc := 7) dX12_value_7 rfl ?_
    have hF_8 := hb
    refine ev_icmp_ge (pc := 8) (tgt := 144) dX12_value_8 (by decide) (fun c_8 => ?_) (fun c_8 => ?_)
    · try simp only [if_pos c_8] at h0
      try simp only [if_pos c_8] at h1
      try simp only [if_pos c_8] at h2
      subst h0
      subst h1
      subst h2
      exact ev_loc hE cw_le0
    · have hb := hF_8 c_8
      try simp only [if_neg c_8] at h0
      try simp only [if_neg c_8] at h1
      try simp only [if_neg c_8] at h2
      refine ev_aload_n (pc := 11) dX12_value_11 rfl ?_
      refine tv_getr (pc := 12) (d := 86) dX12_value_12 fl_X12_71 (by decide) rfl rfl ?_
      refine ev_iload (pc := 15) dX12_value_15 rfl ?_
      refine ev_iald (pc := 17) dX12_value_17 (by decide) rfl hb.1 ?_
      replace hb := hb.2
      refine ev_iconst (pc := 18) (v := 2) dX12_value_18 (by decide) ?_
      obtain ⟨hT_19, hF_19, hb⟩ := hb
      refine ev_cut (pj := 138) (Lj := [some (.ref (cw_z g + 68)), some (.int x1), some (.int x2), some (.int (ql3m19_X12_value_68 n I A J t x1 x2 A5 v5_3 v5_4)), some (.int v5_4), none, none]) (stj := []) (σj := hp g I (qAm19_X12_value_68 n I A J t x1 x2 A5 v5_3 v5_4) J t) ?_ (fun hJ_19 => ?_)
      rotate_left
      · refine ev_icmp_ge (pc := 19) (tgt := 66) dX12_value_19 (by decide) (fun c_19 => ?_) (fun c_19 => ?_)
        · have hb := hT_19 c_19
          refine ev_iinc_3 (pc := 66) (v := (q66_X12_value_68 n I A J t x1 x2 A5 v5_3 v5_4)) dX12_value_66 (by decide) rfl rfl ?_
          refine ev_aload_n (pc := 69) dX12_value_69 rfl ?_
          refine tv_getr (pc := 70) (d := 108) dX12_value_70 fl_X12_137 (by decide) rfl rfl ?_
          refine ev_iload_n (pc := 73) dX12_value_73 rfl ?_
          refine ev_iconst (pc := 74) (v := 1) dX12_value_74 (by decide) ?_
          refine ev_isub (pc := 75) dX12_value_75 ?_
          refine ev_iald (pc := 76) dX12_value_76 (by decide) rfl hb.1 ?_
          replace hb := hb.2
          refine ev_is (y := (q77_X12_value_68 n I A J t x1 x2 A5 v5_3 v5_4)) rfl ?_
          refine ev_istore_5 (pc := 77) dX12_value_77 (by decide) rfl ?_
          refine ev_aload_n (pc := 79) dX12_value_79 rfl ?_
          refine tv_getr (pc := 80) (d := 108) dX12_value_80 fl_X12_137 (by decide) rfl rfl ?_
          refine ev_iload_n (pc := 83) dX12_value_83 rfl ?_
          refine ev_iald (pc := 84) dX12_value_84 (by decide) rfl hb.1 ?_
          replace hb := hb.2
          refine ev_is (y := (q85_X12_value_68 n I A J t x1 x2 A5 v5_3 v5_4)) rfl ?_
          refine ev_istore_6 (pc := 85) dX12_value_85 (by decide) rfl ?_
          refine ev_aload_n (pc := 87) dX12_value_87 rfl ?_
          refine tv_getr (pc := 88) (d := 108) dX12_value_88 fl_X12_137 (by decide) rfl rfl ?_
          refine ev_iload_n (pc := 91) dX12_value_91 rfl ?_
          refine ev_iconst (pc := 92) (v := 1) dX12_value_92 (by decide) ?_
          refine ev_isub (pc := 93) dX12_value_93 ?_
          refine ev_aload_n (pc := 94) dX12_value_94 rfl ?_
          refine tv_getr (pc := 95) (d := 86) dX12_value_95 fl_X12_71 (by decide) rfl rfl ?_
          refine ev_iload (pc := 98) dX12_value_98 rfl ?_
          refine ev_iald (pc := 100) dX12_value_100 (by decide) rfl hb.1 ?_
          replace hb := hb.2
          refine ev_iconst (pc := 101) (v := 2) dX12_value_101 (by decide) ?_
          obtain ⟨hT_102, hb⟩ := hb
          refine ev_cut (pj := 137) (Lj := [some (.ref (cw_z g + 68)), some (.int x1), some (.int x2), some (.int (q66_X12_value_68 n I A J t x1 x2 A5 v5_3 v5_4)), some (.int v5_4), some (.int (q77_X12_value_68 n I A J t x1 x2 A5 v5_3 v5_4)), some (.int (q85_X12_value_68 n I A J t x1 x2 A5 v5_3 v5_4))]) (stj := [(.int (qs2m102_X12_value_68 n I A J t x1 x2 A5 v5_3 v5_4)), (.int ((q66_X12_value_68 n I A J t x1 x2 A5 v5_3 v5_4) - 1)), (.ref (cw_z g + 108))]) (σj := hp g I A5 J t) ?_ (fun hJ_102 => ?_)
          rotate_left
          · refine ev_icmp_ne (pc := 102) (tgt := 113) dX12_value_102 (by decide) (fun c_102 => ?_) (fun c_102 => ?_)
            · have hb := hT_102 c_102
              refine ev_aload_n (pc := 113) dX12_value_113 rfl ?_
              refine tv_getr (pc := 114) (d := 86) dX12_value_114 fl_X12_71 (by decide) rfl rfl ?_
              refine ev_iload (pc := 117) dX12_value_117 rfl ?_
              refine ev_iald (pc := 119) dX12_value_119 (by decide) rfl hb ?_
              refine ev_iconst (pc := 120) (v := 3) dX12_value_120 (by decide) ?_
              refine ev_cut (pj := 137) (Lj := [some (.ref (cw_z g + 68)), some (.int x1), some (.int x2), some (.int (q66_X12_value_68 n I A J t x1 x2 A5 v5_3 v5_4)), some (.int v5_4), some (.int (q77_X12_value_68 n I A J t x1 x2 A5 v5_3 v5_4)), some (.int (q85_X12_value_68 n I A J t x1 x2 A5 v5_3 v5_4))]) (stj := [(.int (qs2m121_X12_value_68 n I A J t x1 x2 A5 v5_3 v5_4)), (.int ((q66_X12_value_68 n I A J t x1 x2 A5 v5_3 v5_4) - 1)), (.ref (cw_z g + 108))]) (σj := hp g I A5 J t) ?_ (fun hJ_121 => ?_)
              rotate_left
              · refine ev_icmp_ne (pc := 121) (tgt := 132) dX12_value_121 (by decide) (fun c_121 => ?_) (fun c_121 => ?_)
                · refine ev_iload (pc := 132) dX12_value_132 rfl ?_
                  refine ev_iload (pc := 134) dX12_value_134 rfl ?_
                  refine ev_imul (pc := 136) dX12_value_136 ?_
                  simp only [qs2m121_X12_value_68, if_neg c_121] at hJ_121
                  exact ev_loc hJ_121 cw_le0
                · refine ev_iload (pc := 124) dX12_value_124 rfl ?_
                  refine ev_iload (pc := 126) dX12_value_126 rfl ?_
                  refine ev_isub (pc := 128) dX12_value_128 ?_
                  refine ev_goto (pc := 129) (tgt := 137) dX12_value_129 (by decide) ?_
                  simp only [qs2m121_X12_value_68, if_pos c_121] at hJ_121
                  exact ev_loc hJ_121 cw_le0
              simp only [qs2m102_X12_value_68, if_neg c_102] at hJ_102
              exact ev_loc hJ_102 cw_le0
            · refine ev_iload (pc := 105) dX12_value_105 rfl ?_
              refine ev_iload (pc := 107) dX12_value_107 rfl ?_
              refine ev_iadd (pc := 109) dX12_value_109 ?_
              refine ev_goto (pc := 110) (tgt := 137) dX12_value_110 (by decide) ?_
              simp only [qs2m102_X12_value_68, if_pos c_102] at hJ_102
              exact ev_loc hJ_102 cw_le0
          refine tw_iast (pc := 137) (A2 := (qA137_X12_value_68 n I A J t x1 x2 A5 v5_3 v5_4)) dX12_value_137 (by decide) rfl hb rfl ?_
          simp only [qAm19_X12_value_68, ql3m19_X12_value_68, if_pos c_19] at hJ_19
          exact ev_loc hJ_19 (cw_leS (cw_leS (cw_leS (cw_leS (cw_leS (cw_leN (cw_leN cw_le0)))))))
        · have hb := hF_19 c_19
          refine ev_aload_n (pc := 22) dX12_value_22 rfl ?_
          refine tv_getr (pc := 23) (d := 108) dX12_value_23 fl_X12_137 (by decide) rfl rfl ?_
          refine ev_iload_n (pc := 26) dX12_value_26 rfl ?_
          refine ev_aload_n (pc := 27) dX12_value_27 rfl ?_
          refine tv_getr (pc := 28) (d := 86) dX12_value_28 fl_X12_71 (by decide) rfl rfl ?_
          refine ev_iload (pc := 31) dX12_value_31 rfl ?_
          refine ev_iald (pc := 33) dX12_value_33 (by decide) rfl hb.1 ?_
          replace hb := hb.2
          obtain ⟨hT_34, hF_34, hb⟩ := hb
          refine ev_cut (pj := 59) (Lj := [some (.ref (cw_z g + 68)), some (.int x1), some (.int x2), some (.int v5_3), some (.int v5_4), none, none]) (stj := [(.int (qs2m34_X12_value_68 n I A J t x1 x2 A5 v5_3 v5_4)), (.int v5_3), (.ref (cw_z g + 108))]) (σj := hp g I A5 J t) ?_ (fun hJ_34 => ?_)
          rotate_left
          · refine ev_if_ne (pc := 34) (tgt := 47) dX12_value_34 (by decide) (fun c_34 => ?_) (fun c_34 => ?_)
            · have hb := hT_34 c_34
              refine ev_aload_n (pc := 47) dX12_value_47 rfl ?_
              refine tv_getr (pc := 48) (d := 107) dX12_value_48 fl_X12_134 (by decide) rfl rfl ?_
              refine ev_aload_n (pc := 51) dX12_value_51 rfl ?_
              refine tv_getr (pc := 52) (d := 87) dX12_value_52 fl_X12_74 (by decide) rfl rfl ?_
              refine ev_iload (pc := 55) dX12_value_55 rfl ?_
              refine ev_iald (pc := 57) dX12_value_57 (by decide) rfl hb.1 ?_
              replace hb := hb.2
              refine ev_iald (pc := 58) dX12_value_58 (by decide) rfl hb ?_
              simp only [qs2m34_X12_value_68, if_neg c_34] at hJ_34
              exact ev_loc hJ_34 cw_le0
            · have hb := hF_34 c_34
              refine ev_aload_n (pc := 37) dX12_value_37 rfl ?_
              refine tv_getr (pc := 38) (d := 87) dX12_value_38 fl_X12_74 (by decide) rfl rfl ?_
              refine ev_iload (pc := 41) dX12_value_41 rfl ?_
              refine ev_iald (pc := 43) dX12_value_43 (by decide) rfl hb ?_
              refine ev_goto (pc := 44) (tgt := 59) dX12_value_44 (by decide) ?_
              simp only [qs2m34_X12_value_68, if_pos c_34] at hJ_34
              exact ev_loc hJ_34 cw_le0
          refine tw_iast (pc := 59) (A2 := (qA59_X12_value_68 n I A J t x1 x2 A5 v5_3 v5_4)) dX12_value_59 (by decide) rfl hb rfl ?_
          refine ev_iinc_3 (pc := 60) (v := (q60_X12_value_68 n I A J t x1 x2 A5 v5_3 v5_4)) dX12_value_60 (by decide) rfl rfl ?_
          refine ev_goto (pc := 63) (tgt := 138) dX12_value_63 (by decide) ?_
          simp only [qAm19_X12_value_68, ql3m19_X12_value_68, if_neg c_19] at hJ_19
          exact ev_loc hJ_19 cw_le0
      refine ev_iinc_4 (pc := 138) (v := (q138_X12_value_68 n I A J t x1 x2 A5 v5_3 v5_4)) dX12_value_138 (by decide) rfl rfl ?_
      refine ev_goto (pc := 141) (tgt := 5) dX12_value_141 (by decide) ?_
      exact ev_loc (ih (qAm19_X12_value_68 n I A J t x1 x2 A5 v5_3 v5_4) (ql3m19_X12_value_68 n I A J t x1 x2 A5 v5_3 v5_4) (q138_X12_value_68 n I A J t x1 x2 A5 v5_3 v5_4) w0 w1 w2 hb h0 h1 h2 hE) cw_le0

set_option maxRecDepth 100000 in
set_option maxHeartbeats 4000000 in
theorem cv_X12_value_68 (g : cw_G) (n : Nat) (I : Nat → Nat → Int32) (A : Nat → Nat → Int32) (J : Nat → Nat → Int64) (t : Bool × Bool) (x1 : Int32) (x2 : Int32) (hb : pb_X12_value_68 n I A J t x1 x2) : Cd g mX12_value [(.ref (cw_z g + 68)), (.int x1), (.int x2)] (hp g I A J t) (some (.int (px_X12_value_68 n I A J t x1 x2))) (hp g I (pA_X12_value_68 n I A J t x1 x2) J t) := by
  unfold pb_X12_value_68 at hb
  unfold px_X12_value_68 pA_X12_value_68
  refine Cd.of rfl (Nat.le_of_ble_eq_true rfl) (ev_gen (fun Q hQ => ?_))
  refine ev_iconst (pc := 0) (v := 0) dX12_value_0 (by decide) ?_
  refine ev_istore_3 (pc := 1) dX12_value_1 (by decide) rfl ?_
  refine ev_iload_n (pc := 2) dX12_value_2 rfl ?_
  refine ev_istore_4 (pc := 3) dX12_value_3 (by decide) rfl ?_
  refine lt_X12_value_68_5 g n I A J t x1 x2 n A 0 x1 (qAw5_X12_value_68 n I A J t x1 x2) (q3w5_X12_value_68 n I A J t x1 x2) (q4w5_X12_value_68 n I A J t x1 x2) hb.1 rfl rfl rfl ?_
  replace hb := hb.2
  refine ev_aload_n (pc := 144) dX12_value_144 rfl ?_
  refine tv_getr (pc := 145) (d := 108) dX12_value_145 fl_X12_137 (by decide) rfl rfl ?_
  refine ev_iconst (pc := 148) (v := 0) dX12_value_148 (by decide) ?_
  refine ev_iald (pc := 149) dX12_value_149 (by decide) rfl hb ?_
  exact ev_iret (pc := 150) dX12_value_150 rfl (by decide) (by decide) (hQ _ _ ⟨rfl, rfl⟩)

def q14_X12_holds_68 (n : Nat) (I : Nat → Nat → Int32) (A : Nat → Nat → Int32) (J : Nat → Nat → Int64) (t : Bool × Bool) (x1 : Int32) : Int32 := (A 80 ((((21 : Int32) * (I 68 18)) + x1)).toNatClampNeg)
def q45_X12_holds_68 (n : Nat) (I : Nat → Nat → Int32) (A : Nat → Nat → Int32) (J : Nat → Nat → Int64) (t : Bool × Bool) (x1 : Int32) (A15 : Nat → Nat → Int32) (v15_2 : Int32) : Int32 := (((200 : Int32) * (I 68 18)) + v15_2)
def q62_X12_holds_68 (n : Nat) (I : Nat → Nat → Int32) (A : Nat → Nat → Int32) (J : Nat → Nat → Int64) (t : Bool × Bool) (x1 : Int32) (A15 : Nat → Nat → Int32) (v15_2 : Int32) : Int32 := (px_X12_value_68 n I A15 J t (A15 83 ((q45_X12_holds_68 n I A J t x1 A15 v15_2)).toNatClampNeg) (A15 84 ((q45_X12_holds_68 n I A J t x1 A15 v15_2)).toNatClampNeg))
def q80_X12_holds_68 (n : Nat) (I : Nat → Nat → Int32) (A : Nat → Nat → Int32) (J : Nat → Nat → Int64) (t : Bool × Bool) (x1 : Int32) (A15 : Nat → Nat → Int32) (v15_2 : Int32) : Int32 := (px_X12_value_68 n I (pA_X12_value_68 n I A15 J t (A15 83 ((q45_X12_holds_68 n I A J t x1 A15 v15_2)).toNatClampNeg) (A15 84 ((q45_X12_holds_68 n I A J t x1 A15 v15_2)).toNatClampNeg)) J t ((pA_X12_value_68 n I A15 J t (A15 83 ((q45_X12_holds_68 n I A J t x1 A15 v15_2)).toNatClampNeg) (A15 84 ((q45_X12_holds_68 n I A J t x1 A15 v15_2)).toNatClampNeg)) 84 ((q45_X12_holds_68 n I A J t x1 A15 v15_2)).toNatClampNeg) ((pA_X12_value_68 n I A15 J t (A15 83 ((q45_X12_holds_68 n I A J t x1 A15 v15_2)).toNatClampNeg) (A15 84 ((q45_X12_holds_68 n I A J t x1 A15 v15_2)).toNatClampNeg)) 85 ((q45_X12_holds_68 n I A J t x1 A15 v15_2)).toNatClampNeg))
def qs0m160_X12_holds_68 (n : Nat) (I : Nat → Nat → Int32) (A : Nat → Nat → Int32) (J : Nat → Nat → Int64) (t : Bool × Bool) (x1 : Int32) (A15 : Nat → Nat → Int32) (v15_2 : Int32) : Int32 := if (q80_X12_holds_68 n I A J t x1 A15 v15_2) < (q62_X12_holds_68 n I A J t x1 A15 v15_2) then 0 else 1
def qs0m145_X12_holds_68 (n : Nat) (I : Nat → Nat → Int32) (A : Nat → Nat → Int32) (J : Nat → Nat → Int64) (t : Bool × Bool) (x1 : Int32) (A15 : Nat → Nat → Int32) (v15_2 : Int32) : Int32 := if (q80_X12_holds_68 n I A J t x1 A15 v15_2) ≤ (q62_X12_holds_68 n I A J t x1 A15 v15_2) then 0 else 1
def qs0m138_X12_holds_68 (n : Nat) (I : Nat → Nat → Int32) (A : Nat → Nat → Int32) (J : Nat → Nat → Int64) (t : Bool × Bool) (x1 : Int32) (A15 : Nat → Nat → Int32) (v15_2 : Int32) : Int32 := if ((pA_X12_value_68 n I (pA_X12_value_68 n I A15 J t (A15 83 ((q45_X12_holds_68 n I A J t x1 A15 v15_2)).toNatClampNeg) (A15 84 ((q45_X12_holds_68 n I A J t x1 A15 v15_2)).toNatClampNeg)) J t ((pA_X12_value_68 n I A15 J t (A15 83 ((q45_X12_holds_68 n I A J t x1 A15 v15_2)).toNatClampNeg) (A15 84 ((q45_X12_holds_68 n I A J t x1 A15 v15_2)).toNatClampNeg)) 84 ((q45_X12_holds_68 n I A J t x1 A15 v15_2)).toNatClampNeg) ((pA_X12_value_68 n I A15 J t (A15 83 ((q45_X12_holds_68 n I A J t x1 A15 v15_2)).toNatClampNeg) (A15 84 ((q45_X12_holds_68 n I A J t x1 A15 v15_2)).toNatClampNeg)) 85 ((q45_X12_holds_68 n I A J t x1 A15 v15_2)).toNatClampNeg)) 82 ((q45_X12_holds_68 n I A J t x1 A15 v15_2)).toNatClampNeg) = 2 then (qs0m145_X12_holds_68 n I A J t x1 A15 v15_2) else (qs0m160_X12_holds_68 n I A J t x1 A15 v15_2)
def qs0m120_X12_holds_68 (n : Nat) (I : Nat → Nat → Int32) (A : Nat → Nat → Int32) (J : Nat → Nat → Int64) (t : Bool × Bool) (x1 : Int32) (A15 : Nat → Nat → Int32) (v15_2 : Int32) : Int32 := if (q62_X12_holds_68 n I A J t x1 A15 v15_2) = (q80_X12_holds_68 n I A J t x1 A15 v15_2) then 0 else 1
def qs0m113_X12_holds_68 (n : Nat) (I : Nat → Nat → Int32) (A : Nat → Nat → Int32) (J : Nat → Nat → Int64) (t : Bool × Bool) (x1 : Int32) (A15 : Nat → Nat → Int32) (v15_2 : Int32) : Int32 := if ((pA_X12_value_68 n I (pA_X12_value_68 n I A15 J t (A15 83 ((q45_X12_holds_68 n I A J t x1 A15 v15_2)).toNatClampNeg) (A15 84 ((q45_X12_holds_68 n I A J t x1 A15 v15_2)).toNatClampNeg)) J t ((pA_X12_value_68 n I A15 J t (A15 83 ((q45_X12_holds_68 n I A J t x1 A15 v15_2)).toNatClampNeg) (A15 84 ((q45_X12_holds_68 n I A J t x1 A15 v15_2)).toNatClampNeg)) 84 ((q45_X12_holds_68 n I A J t x1 A15 v15_2)).toNatClampNeg) ((pA_X12_value_68 n I A15 J t (A15 83 ((q45_X12_holds_68 n I A J t x1 A15 v15_2)).toNatClampNeg) (A15 84 ((q45_X12_holds_68 n I A J t x1 A15 v15_2)).toNatClampNeg)) 85 ((q45_X12_holds_68 n I A J t x1 A15 v15_2)).toNatClampNeg)) 82 ((q45_X12_holds_68 n I A J t x1 A15 v15_2)).toNatClampNeg) = 1 then (qs0m120_X12_holds_68 n I A J t x1 A15 v15_2) else (qs0m138_X12_holds_68 n I A J t x1 A15 v15_2)
def qs0m95_X12_holds_68 (n : Nat) (I : Nat → Nat → Int32) (A : Nat → Nat → Int32) (J : Nat → Nat → Int64) (t : Bool × Bool) (x1 : Int32) (A15 : Nat → Nat → Int32) (v15_2 : Int32) : Int32 := if (q62_X12_holds_68 n I A J t x1 A15 v15_2) = (q80_X12_holds_68 n I A J t x1 A15 v15_2) then 1 else 0
def qs0m88_X12_holds_68 (n : Nat) (I : Nat → Nat → Int32) (A : Nat → Nat → Int32) (J : Nat → Nat → Int64) (t : Bool × Bool) (x1 : Int32) (A15 : Nat → Nat → Int32) (v15_2 : Int32) : Int32 := if ((pA_X12_value_68 n I (pA_X12_value_68 n I A15 J t (A15 83 ((q45_X12_holds_68 n I A J t x1 A15 v15_2)).toNatClampNeg) (A15 84 ((q45_X12_holds_68 n I A J t x1 A15 v15_2)).toNatClampNeg)) J t ((pA_X12_value_68 n I A15 J t (A15 83 ((q45_X12_holds_68 n I A J t x1 A15 v15_2)).toNatClampNeg) (A15 84 ((q45_X12_holds_68 n I A J t x1 A15 v15_2)).toNatClampNeg)) 84 ((q45_X12_holds_68 n I A J t x1 A15 v15_2)).toNatClampNeg) ((pA_X12_value_68 n I A15 J t (A15 83 ((q45_X12_holds_68 n I A J t x1 A15 v15_2)).toNatClampNeg) (A15 84 ((q45_X12_holds_68 n I A J t x1 A15 v15_2)).toNatClampNeg)) 85 ((q45_X12_holds_68 n I A J t x1 A15 v15_2)).toNatClampNeg)) 82 ((q45_X12_holds_68 n I A J t x1 A15 v15_2)).toNatClampNeg) = 0 then (qs0m95_X12_holds_68 n I A J t x1 A15 v15_2) else (qs0m113_X12_holds_68 n I A J t x1 A15 v15_2)
def q177_X12_holds_68 (n : Nat) (I : Nat → Nat → Int32) (A : Nat → Nat → Int32) (J : Nat → Nat → Int64) (t : Bool × Bool) (x1 : Int32) (A15 : Nat → Nat → Int32) (v15_2 : Int32) : Int32 := v15_2 + 1
def lp_X12_holds_68_15 (n : Nat) (I : Nat → Nat → Int32) (A : Nat → Nat → Int32) (J : Nat → Nat → Int64) (t : Bool × Bool) (x1 : Int32) : Nat → (Nat → Nat → Int32) → (Int32) → Int32 × (Nat → Nat → Int32)
  | 0, A15, v15_2 => (0, A15)
  | f + 1, A15, v15_2 => if (A15 80 (((((21 : Int32) * (I 68 18)) + x1) + 1)).toNatClampNeg) ≤ v15_2 then (1, A15) else if (qs0m88_X12_holds_68 n I A J t x1 A15 v15_2) = 0 then (0, (pA_X12_value_68 n I (pA_X12_value_68 n I A15 J t (A15 83 ((q45_X12_holds_68 n I A J t x1 A15 v15_2)).toNatClampNeg) (A15 84 ((q45_X12_holds_68 n I A J t x1 A15 v15_2)).toNatClampNeg)) J t ((pA_X12_value_68 n I A15 J t (A15 83 ((q45_X12_holds_68 n I A J t x1 A15 v15_2)).toNatClampNeg) (A15 84 ((q45_X12_holds_68 n I A J t x1 A15 v15_2)).toNatClampNeg)) 84 ((q45_X12_holds_68 n I A J t x1 A15 v15_2)).toNatClampNeg) ((pA_X12_value_68 n I A15 J t (A15 83 ((q45_X12_holds_68 n I A J t x1 A15 v15_2)).toNatClampNeg) (A15 84 ((q45_X12_holds_68 n I A J t x1 A15 v15_2)).toNatClampNeg)) 85 ((q45_X12_holds_68 n I A J t x1 A15 v15_2)).toNatClampNeg))) else lp_X12_holds_68_15 n I A J t x1 f (pA_X12_value_68 n I (pA_X12_value_68 n I A15 J t (A15 83 ((q45_X12_holds_68 n I A J t x1 A15 v15_2)).toNatClampNeg) (A15 84 ((q45_X12_holds_68 n I A J t x1 A15 v15_2)).toNatClampNeg)) J t ((pA_X12_value_68 n I A15 J t (A15 83 ((q45_X12_holds_68 n I A J t x1 A15 v15_2)).toNatClampNeg) (A15 84 ((q45_X12_holds_68 n I A J t x1 A15 v15_2)).toNatClampNeg)) 84 ((q45_X12_holds_68 n I A J t x1 A15 v15_2)).toNatClampNeg) ((pA_X12_value_68 n I A15 J t (A15 83 ((q45_X12_holds_68 n I A J t x1 A15 v15_2)).toNatClampNeg) (A15 84 ((q45_X12_holds_68 n I A J t x1 A15 v15_2)).toNatClampNeg)) 85 ((q45_X12_holds_68 n I A J t x1 A15 v15_2)).toNatClampNeg)) (q177_X12_holds_68 n I A J t x1 A15 v15_2)
def lb_X12_holds_68_15 (n : Nat) (I : Nat → Nat → Int32) (A : Nat → Nat → Int32) (J : Nat → Nat → Int64) (t : Bool × Bool) (x1 : Int32) : Nat → (Nat → Nat → Int32) → (Int32) → Prop
  | 0, _, _ => False
  | f + 1, A15, v15_2 => vp_in ((((21 : Int32) * (I 68 18)) + x1) + 1) 42 ∧ (¬ (A15 80 (((((21 : Int32) * (I 68 18)) + x1) + 1)).toNatClampNeg) ≤ v15_2 → vp_in (q45_X12_holds_68 n I A J t x1 A15 v15_2) 400 ∧ vp_in (q45_X12_holds_68 n I A J t x1 A15 v15_2) 400 ∧ pb_X12_value_68 n I A15 J t (A15 83 ((q45_X12_holds_68 n I A J t x1 A15 v15_2)).toNatClampNeg) (A15 84 ((q45_X12_holds_68 n I A J t x1 A15 v15_2)).toNatClampNeg) ∧ vp_in (q45_X12_holds_68 n I A J t x1 A15 v15_2) 400 ∧ vp_in (q45_X12_holds_68 n I A J t x1 A15 v15_2) 400 ∧ pb_X12_value_68 n I (pA_X12_value_68 n I A15 J t (A15 83 ((q45_X12_holds_68 n I A J t x1 A15 v15_2)).toNatClampNeg) (A15 84 ((q45_X12_holds_68 n I A J t x1 A15 v15_2)).toNatClampNeg)) J t ((pA_X12_value_68 n I A15 J t (A15 83 ((q45_X12_holds_68 n I A J t x1 A15 v15_2)).toNatClampNeg) (A15 84 ((q45_X12_holds_68 n I A J t x1 A15 v15_2)).toNatClampNeg)) 84 ((q45_X12_holds_68 n I A J t x1 A15 v15_2)).toNatClampNeg) ((pA_X12_value_68 n I A15 J t (A15 83 ((q45_X12_holds_68 n I A J t x1 A15 v15_2)).toNatClampNeg) (A15 84 ((q45_X12_holds_68 n I A J t x1 A15 v15_2)).toNatClampNeg)) 85 ((q45_X12_holds_68 n I A J t x1 A15 v15_2)).toNatClampNeg) ∧ vp_in (q45_X12_holds_68 n I A J t x1 A15 v15_2) 400 ∧ (¬ ((pA_X12_value_68 n I (pA_X12_value_68 n I A15 J t (A15 83 ((q45_X12_holds_68 n I A J t x1 A15 v15_2)).toNatClampNeg) (A15 84 ((q45_X12_holds_68 n I A J t x1 A15 v15_2)).toNatClampNeg)) J t ((pA_X12_value_68 n I A15 J t (A15 83 ((q45_X12_holds_68 n I A J t x1 A15 v15_2)).toNatClampNeg) (A15 84 ((q45_X12_holds_68 n I A J t x1 A15 v15_2)).toNatClampNeg)) 84 ((q45_X12_holds_68 n I A J t x1 A15 v15_2)).toNatClampNeg) ((pA_X12_value_68 n I A15 J t (A15 83 ((q45_X12_holds_68 n I A J t x1 A15 v15_2)).toNatClampNeg) (A15 84 ((q45_X12_holds_68 n I A J t x1 A15 v15_2)).toNatClampNeg)) 85 ((q45_X12_holds_68 n I A J t x1 A15 v15_2)).toNatClampNeg)) 82 ((q45_X12_holds_68 n I A J t x1 A15 v15_2)).toNatClampNeg) = 0 → vp_in (q45_X12_holds_68 n I A J t x1 A15 v15_2) 400 ∧ (¬ ((pA_X12_value_68 n I (pA_X12_value_68 n I A15 J t (A15 83 ((q45_X12_holds_68 n I A J t x1 A15 v15_2)).toNatClampNeg) (A15 84 ((q45_X12_holds_68 n I A J t x1 A15 v15_2)).toNatClampNeg)) J t ((pA_X12_value_68 n I A15 J t (A15 83 ((q45_X12_holds_68 n I A J t x1 A15 v15_2)).toNatClampNeg) (A15 84 ((q45_X12_holds_68 n I A J t x1 A15 v15_2)).toNatClampNeg)) 84 ((q45_X12_holds_68 n I A J t x1 A15 v15_2)).toNatClampNeg) ((pA_X12_value_68 n I A15 J t (A15 83 ((q45_X12_holds_68 n I A J t x1 A15 v15_2)).toNatClampNeg) (A15 84 ((q45_X12_holds_68 n I A J t x1 A15 v15_2)).toNatClampNeg)) 85 ((q45_X12_holds_68 n I A J t x1 A15 v15_2)).toNatClampNeg)) 82 ((q45_X12_holds_68 n I A J t x1 A15 v15_2)).toNatClampNeg) = 1 → vp_in (q45_X12_holds_68 n I A J t x1 A15 v15_2) 400)) ∧ (¬ (qs0m88_X12_holds_68 n I A J t x1 A15 v15_2) = 0 → lb_X12_holds_68_15 n I A J t x1 f (pA_X12_value_68 n I (pA_X12_value_68 n I A15 J t (A15 83 ((q45_X12_holds_68 n I A J t x1 A15 v15_2)).toNatClampNeg) (A15 84 ((q45_X12_holds_68 n I A J t x1 A15 v15_2)).toNatClampNeg)) J t ((pA_X12_value_68 n I A15 J t (A15 83 ((q45_X12_holds_68 n I A J t x1 A15 v15_2)).toNatClampNeg) (A15 84 ((q45_X12_holds_68 n I A J t x1 A15 v15_2)).toNatClampNeg)) 84 ((q45_X12_holds_68 n I A J t x1 A15 v15_2)).toNatClampNeg) ((pA_X12_value_68 n I A15 J t (A15 83 ((q45_X12_holds_68 n I A J t x1 A15 v15_2)).toNatClampNeg) (A15 84 ((q45_X12_holds_68 n I A J t x1 A15 v15_2)).toNatClampNeg)) 85 ((q45_X12_holds_68 n I A J t x1 A15 v15_2)).toNatClampNeg)) (q177_X12_holds_68 n I A J t x1 A15 v15_2)))
def pb_X12_holds_68 (n : Nat) (I : Nat → Nat → Int32) (A : Nat → Nat → Int32) (J : Nat → Nat → Int64) (t : Bool × Bool) (x1 : Int32) : Prop := vp_in (((21 : Int32) * (I 68 18)) + x1) 42 ∧ lb_X12_holds_68_15 n I A J t x1 n A (q14_X12_holds_68 n I A J t x1)
def px_X12_holds_68 (n : Nat) (I : Nat → Nat → Int32) (A : Nat → Nat → Int32) (J : Nat → Nat → Int64) (t : Bool × Bool) (x1 : Int32) : Int32 := (lp_X12_holds_68_15 n I A J t x1 n A (q14_X12_holds_68 n I A J t x1)).1
def pA_X12_holds_68 (n : Nat) (I : Nat → Nat → Int32) (A : Nat → Nat → Int32) (J : Nat → Nat → Int64) (t : Bool × Bool) (x1 : Int32) : Nat → Nat → Int32 := (lp_X12_holds_68_15 n I A J t x1 n A (q14_X12_holds_68 n I A J t x1)).2
set_option maxRecDepth 100000 in
set_option maxHeartbeats 4000000 in
theorem lt_X12_holds_68_15 (g : cw_G) (n : Nat) (I : Nat → Nat → Int32) (A : Nat → Nat → Int32) (J : Nat → Nat → Int64) (t : Bool × Bool) (x1 : Int32) : ∀ (f : Nat) (A15 : Nat → Nat → Int32) (v15_2 : Int32), lb_X12_holds_68_15 n I A J t x1 f A15 v15_2 → Ev g mX12_holds 0 0 15 [some (.ref (cw_z g + 68)), some (.int x1), some (.int v15_2), none, none, none, none] [] (hp g I A15 J t) (fun r2 τ2 => r2 = some (.int (lp_X12_holds_68_15 n I A J t x1 f A15 v15_2).1) ∧ τ2 = (hp g I (lp_X12_holds_68_15 n I A J t x1 f A15 v15_2).2 J t)) := by
  intro f
  induction f with
  | zero =>
    intro A15 v15_2 hb
    exact hb.elim
  | succ f ih =>
    intro A15 v15_2 hb
    rw [lb_X12_holds_68_15] at hb
    refine ev_gen (fun Q hQ => ?_)
    rw [lp_X12_holds_68_15] at hQ
    refine ev_iload_n (pc := 15) dX12_holds_15 rfl ?_
    refine ev_aload_n (pc := 16) dX12_holds_16 rfl ?_
    refine tv_getr (pc := 17) (d := 80) dX12_holds_17 fl_X12_53 (by decide) rfl rfl ?_
    refine ev_bipush (pc := 20) (v := 21) dX12_holds_20 (by decide) ?_
    refine ev_aload_n (pc := 22) dX12_holds_22 rfl ?_
    refine tv_geti (pc := 23) dX12_holds_23 fl_X12_245 (by decide) rfl rfl ?_
    refine ev_imul (pc := 26) dX12_holds_26 ?_
    refine ev_iload_n (pc := 27) dX12_holds_27 rfl ?_
    refine ev_iadd (pc := 28) dX12_holds_28 ?_
    refine ev_iconst (pc := 29) (v := 1) dX12_holds_29 (by decide) ?_
    refine ev_iadd (pc := 30) dX12_holds_30 ?_
    refine ev_iald (pc := 31) dX12_holds_31 (by decide) rfl hb.1 ?_
    replace hb := hb.2
    have hF_32 := hb
    refine ev_icmp_ge (pc := 32) (tgt := 183) dX12_holds_32 (by decide) (fun c_32 => ?_) (fun c_32 => ?_)
    · try simp only [if_pos c_32] at hQ
      refine ev_iconst (pc := 183) (v := 1) dX12_holds_183 (by decide) ?_
      exact ev_zret (pc := 184) dX12_holds_184 rfl rfl (by decide) (by decide) (hQ _ _ ⟨rfl, rfl⟩)
    · have hb := hF_32 c_32
      try simp only [if_neg c_32] at hQ
      refine ev_sipush (pc := 35) (v := 200) dX12_holds_35 (by decide) ?_
      refine ev_aload_n (pc := 38) dX12_holds_38 rfl ?_
      refine tv_geti (pc := 39) dX12_holds_39 fl_X12_245 (by decide) rfl rfl ?_
      refine ev_imul (pc := 42) dX12_holds_42 ?_
      refine ev_iload_n (pc := 43) dX12_holds_43 rfl ?_
      refine ev_iadd (pc := 44) dX12_holds_44 ?_
      refine ev_is (y := (q45_X12_holds_68 n I A J t x1 A15 v15_2)) rfl ?_
      refine ev_istore_3 (pc := 45) dX12_holds_45 (by decide) rfl ?_
      refine ev_aload_n (pc := 46) dX12_holds_46 rfl ?_
      refine ev_aload_n (pc := 47) dX12_holds_47 rfl ?_
      refine tv_getr (pc := 48) (d := 83) dX12_holds_48 fl_X12_62 (by decide) rfl rfl ?_
      refine ev_iload_n (pc := 51) dX12_holds_51 rfl ?_
      refine ev_iald (pc := 52) dX12_holds_52 (by decide) rfl hb.1 ?_
      replace hb := hb.2
      refine ev_aload_n (pc := 53) dX12_holds_53 rfl ?_
      refine tv_getr (pc := 54) (d := 84) dX12_holds_54 fl_X12_65 (by decide) rfl rfl ?_
      refine ev_iload_n (pc := 57) dX12_holds_57 rfl ?_
      refine ev_iald (pc := 58) dX12_holds_58 (by decide) rfl hb.1 ?_
      replace hb := hb.2
      refine ev_Vi (pc := 59) dX12_holds_59 lk_X12_352 cd_X12_value ar_X12_value ⟨by decide, rfl, rfl⟩ (cv_X12_value_68 g n I A15 J t (A15 83 ((q45_X12_holds_68 n I A J t x1 A15 v15_2)).toNatClampNeg) (A15 84 ((q45_X12_holds_68 n I A J t x1 A15 v15_2)).toNatClampNeg) hb.1) (show 68 < 120 by decide) rfl rfl rfl rfl (Nat.le_of_ble_eq_true rfl) ⟨by decide, by decide⟩ ?_
      replace hb := hb.2
      refine ev_is (y := (q62_X12_holds_68 n I A J t x1 A15 v15_2)) rfl ?_
      refine ev_istore_4 (pc := 62) dX12_holds_62 (by decide) rfl ?_
      refine ev_aload_n (pc := 64) dX12_holds_64 rfl ?_
      refine ev_aload_n (pc := 65) dX12_holds_65 rfl ?_
      refine tv_getr (pc := 66) (d := 84) dX12_holds_66 fl_X12_65 (by decide) rfl rfl ?_
      refine ev_iload_n (pc := 69) dX12_holds_69 rfl ?_
      refine ev_iald (pc := 70) dX12_holds_70 (by decide) rfl hb.1 ?_
      replace hb := hb.2
      refine ev_aload_n (pc := 71) dX12_holds_71 rfl ?_
      refine tv_getr (pc := 72) (d := 85) dX12_holds_72 fl_X12_68 (by decide) rfl rfl ?_
      refine ev_iload_n (pc := 75) dX12_holds_75 rfl ?_
      refine ev_iald (pc := 76) dX12_holds_76 (by decide) rfl hb.1 ?_
      replace hb := hb.2
      refine ev_Vi (pc := 77) dX12_holds_77 lk_X12_352 cd_X12_value ar_X12_value ⟨by decide, rfl, rfl⟩ (cv_X12_value_68 g n I (pA_X12_value_68 n I A15 J t (A15 83 ((q45_X12_holds_68 n I A J t x1 A15 v15_2)).toNatClampNeg) (A15 84 ((q45_X12_holds_68 n I A J t x1 A15 v15_2)).toNatClampNeg)) J t ((pA_X12_value_68 n I A15 J t (A15 83 ((q45_X12_holds_68 n I A J t x1 A15 v15_2)).toNatClampNeg) (A15 84 ((q45_X12_holds_68 n I A J t x1 A15 v15_2)).toNatClampNeg)) 84 ((q45_X12_holds_68 n I A J t x1 A15 v15_2)).toNatClampNeg) ((pA_X12_value_68 n I A15 J t (A15 83 ((q45_X12_holds_68 n I A J t x1 A15 v15_2)).toNatClampNeg) (A15 84 ((q45_X12_holds_68 n I A J t x1 A15 v15_2)).toNatClampNeg)) 85 ((q45_X12_holds_68 n I A J t x1 A15 v15_2)).toNatClampNeg) hb.1) (show 68 < 120 by decide) rfl rfl rfl rfl (Nat.le_of_ble_eq_true rfl) ⟨by decide, by decide⟩ ?_
      replace hb := hb.2
      refine ev_is (y := (q80_X12_holds_68 n I A J t x1 A15 v15_2)) rfl ?_
      refine ev_istore_5 (pc := 80) dX12_holds_80 (by decide) rfl ?_
      refine ev_aload_n (pc := 82) dX12_holds_82 rfl ?_
      refine tv_getr (pc := 83) (d := 82) dX12_holds_83 fl_X12_59 (by decide) rfl rfl ?_
      refine ev_iload_n (pc := 86) dX12_holds_86 rfl ?_
      refine ev_iald (pc := 87) dX12_holds_87 (by decide) rfl hb.1 ?_
      replace hb := hb.2
      obtain ⟨hT_88, hb⟩ := hb
      refine ev_cut (pj := 168) (Lj := [some (.ref (cw_z g + 68)), some (.int x1), some (.int v15_2), some (.int (q45_X12_holds_68 n I A J t x1 A15 v15_2)), some (.int (q62_X12_holds_68 n I A J t x1 A15 v15_2)), some (.int (q80_X12_holds_68 n I A J t x1 A15 v15_2)), none]) (stj := [(.int (qs0m88_X12_holds_68 n I A J t x1 A15 v15_2))]) (σj := hp g I (pA_X12_value_68 n I (pA_X12_value_68 n I A15 J t (A15 83 ((q45_X12_holds_68 n I A J t x1 A15 v15_2)).toNatClampNeg) (A15 84 ((q45_X12_holds_68 n I A J t x1 A15 v15_2)).toNatClampNeg)) J t ((pA_X12_value_68 n I A15 J t (A15 83 ((q45_X12_holds_68 n I A J t x1 A15 v15_2)).toNatClampNeg) (A15 84 ((q45_X12_holds_68 n I A J t x1 A15 v15_2)).toNatClampNeg)) 84 ((q45_X12_holds_68 n I A J t x1 A15 v15_2)).toNatClampNeg) ((pA_X12_value_68 n I A15 J t (A15 83 ((q45_X12_holds_68 n I A J t x1 A15 v15_2)).toNatClampNeg) (A15 84 ((q45_X12_holds_68 n I A J t x1 A15 v15_2)).toNatClampNeg)) 85 ((q45_X12_holds_68 n I A J t x1 A15 v15_2)).toNatClampNeg)) J t) ?_ (fun hJ_88 => ?_)
      rotate_left
      · refine ev_if_ne (pc := 88) (tgt := 106) dX12_holds_88 (by decide) (fun c_88 => ?_) (fun c_88 => ?_)
        · have hb := hT_88 c_88
          refine ev_aload_n (pc := 106) dX12_holds_106 rfl ?_
          refine tv_getr (pc := 107) (d := 82) dX12_holds_107 fl_X12_59 (by decide) rfl rfl ?_
          refine ev_iload_n (pc := 110) dX12_holds_110 rfl ?_
          refine ev_iald (pc := 111) dX12_holds_111 (by decide) rfl hb.1 ?_
          replace hb := hb.2
          refine ev_iconst (pc := 112) (v := 1) dX12_holds_112 (by decide) ?_
          have hT_113 := hb
          refine ev_cut (pj := 168) (Lj := [some (.ref (cw_z g + 68)), some (.int x1), some (.int v15_2), some (.int (q45_X12_holds_68 n I A J t x1 A15 v15_2)), some (.int (q62_X12_holds_68 n I A J t x1 A15 v15_2)), some (.int (q80_X12_holds_68 n I A J t x1 A15 v15_2)), none]) (stj := [(.int (qs0m113_X12_holds_68 n I A J t x1 A15 v15_2))]) (σj := hp g I (pA_X12_value_68 n I (pA_X12_value_68 n I A15 J t (A15 83 ((q45_X12_holds_68 n I A J t x1 A15 v15_2)).toNatClampNeg) (A15 84 ((q45_X12_holds_68 n I A J t x1 A15 v15_2)).toNatClampNeg)) J t ((pA_X12_value_68 n I A15 J t (A15 83 ((q45_X12_holds_68 n I A J t x1 A15 v15_2)).toNatClampNeg) (A15 84 ((q45_X12_holds_68 n I A J t x1 A15 v15_2)).toNatClampNeg)) 84 ((q45_X12_holds_68 n I A J t x1 A15 v15_2)).toNatClampNeg) ((pA_X12_value_68 n I A15 J t (A15 83 ((q45_X12_holds_68 n I A J t x1 A15 v15_2)).toNatClampNeg) (A15 84 ((q45_X12_holds_68 n I A J t x1 A15 v15_2)).toNatClampNeg)) 85 ((q45_X12_holds_68 n I A J t x1 A15 v15_2)).toNatClampNeg)) J t) ?_ (fun hJ_113 => ?_)
          rotate_left
          · refine ev_icmp_ne (pc := 113) (tgt := 131) dX12_holds_113 (by decide) (fun c_113 => ?_) (fun c_113 => ?_)
            · have hb := hT_113 c_113
              refine ev_aload_n (pc := 131) dX12_holds_131 rfl ?_
              refine tv_getr (pc := 132) (d := 82) dX12_holds_132 fl_X12_59 (by decide) rfl rfl ?_
              refine ev_iload_n (pc := 135) dX12_holds_135 rfl ?_
              refine ev_iald (pc := 136) dX12_holds_136 (by decide) rfl hb ?_
              refine ev_iconst (pc := 137) (v := 2) dX12_holds_137 (by decide) ?_
              refine ev_cut (pj := 168) (Lj := [some (.ref (cw_z g + 68)), some (.int x1), some (.int v15_2), some (.int (q45_X12_holds_68 n I A J t x1 A15 v15_2)), some (.int (q62_X12_holds_68 n I A J t x1 A15 v15_2)), some (.int (q80_X12_holds_68 n I A J t x1 A15 v15_2)), none]) (stj := [(.int (qs0m138_X12_holds_68 n I A J t x1 A15 v15_2))]) (σj := hp g I (pA_X12_value_68 n I (pA_X12_value_68 n I A15 J t (A15 83 ((q45_X12_holds_68 n I A J t x1 A15 v15_2)).toNatClampNeg) (A15 84 ((q45_X12_holds_68 n I A J t x1 A15 v15_2)).toNatClampNeg)) J t ((pA_X12_value_68 n I A15 J t (A15 83 ((q45_X12_holds_68 n I A J t x1 A15 v15_2)).toNatClampNeg) (A15 84 ((q45_X12_holds_68 n I A J t x1 A15 v15_2)).toNatClampNeg)) 84 ((q45_X12_holds_68 n I A J t x1 A15 v15_2)).toNatClampNeg) ((pA_X12_value_68 n I A15 J t (A15 83 ((q45_X12_holds_68 n I A J t x1 A15 v15_2)).toNatClampNeg) (A15 84 ((q45_X12_holds_68 n I A J t x1 A15 v15_2)).toNatClampNeg)) 85 ((q45_X12_holds_68 n I A J t x1 A15 v15_2)).toNatClampNeg)) J t) ?_ (fun hJ_138 => ?_)
              rotate_left
              · refine ev_icmp_ne (pc := 138) (tgt := 156) dX12_holds_138 (by decide) (fun c_138 => ?_) (fun c_138 => ?_)
                · refine ev_iload (pc := 156) dX12_holds_156 rfl ?_
                  refine ev_iload (pc := 158) dX12_holds_158 rfl ?_
                  refine ev_cut (pj := 168) (Lj := [some (.ref (cw_z g + 68)), some (.int x1), some (.int v15_2), some (.int (q45_X12_holds_68 n I A J t x1 A15 v15_2)), some (.int (q62_X12_holds_68 n I A J t x1 A15 v15_2)), some (.int (q80_X12_holds_68 n I A J t x1 A15 v15_2)), none]) (stj := [(.int (qs0m160_X12_holds_68 n I A J t x1 A15 v15_2))]) (σj := hp g I (pA_X12_value_68 n I (pA_X12_value_68 n I A15 J t (A15 83 ((q45_X12_holds_68 n I A J t x1 A15 v15_2)).toNatClampNeg) (A15 84 ((q45_X12_holds_68 n I A J t x1 A15 v15_2)).toNatClampNeg)) J t ((pA_X12_value_68 n I A15 J t (A15 83 ((q45_X12_holds_68 n I A J t x1 A15 v15_2)).toNatClampNeg) (A15 84 ((q45_X12_holds_68 n I A J t x1 A15 v15_2)).toNatClampNeg)) 84 ((q45_X12_holds_68 n I A J t x1 A15 v15_2)).toNatClampNeg) ((pA_X12_value_68 n I A15 J t (A15 83 ((q45_X12_holds_68 n I A J t x1 A15 v15_2)).toNatClampNeg) (A15 84 ((q45_X12_holds_68 n I A J t x1 A15 v15_2)).toNatClampNeg)) 85 ((q45_X12_holds_68 n I A J t x1 A15 v15_2)).toNatClampNeg)) J t) ?_ (fun hJ_160 => ?_)
                  rotate_left
                  · refine ev_icmp_gt (pc := 160) (tgt := 167) dX12_holds_160 (by decide) (fun c_160 => ?_) (fun c_160 => ?_)
                    · refine ev_iconst (pc := 167) (v := 0) dX12_holds_167 (by decide) ?_
                      simp only [qs0m160_X12_holds_68, if_pos c_160] at hJ_160
                      exact ev_loc hJ_160 cw_le0
                    · refine ev_iconst (pc := 163) (v := 1) dX12_holds_163 (by decide) ?_
                      refine ev_goto (pc := 164) (tgt := 168) dX12_holds_164 (by decide) ?_
                      simp only [qs0m160_X12_holds_68, if_neg c_160] at hJ_160
                      exact ev_loc hJ_160 cw_le0
                  simp only [qs0m138_X12_holds_68, if_neg c_138] at hJ_138
                  exact ev_loc hJ_138 cw_le0
                · refine ev_iload (pc := 141) dX12_holds_141 rfl ?_
                  refine ev_iload (pc := 143) dX12_holds_143 rfl ?_
                  refine ev_cut (pj := 168) (Lj := [some (.ref (cw_z g + 68)), some (.int x1), some (.int v15_2), some (.int (q45_X12_holds_68 n I A J t x1 A15 v15_2)), some (.int (q62_X12_holds_68 n I A J t x1 A15 v15_2)), some (.int (q80_X12_holds_68 n I A J t x1 A15 v15_2)), none]) (stj := [(.int (qs0m145_X12_holds_68 n I A J t x1 A15 v15_2))]) (σj := hp g I (pA_X12_value_68 n I (pA_X12_value_68 n I A15 J t (A15 83 ((q45_X12_holds_68 n I A J t x1 A15 v15_2)).toNatClampNeg) (A15 84 ((q45_X12_holds_68 n I A J t x1 A15 v15_2)).toNatClampNeg)) J t ((pA_X12_value_68 n I A15 J t (A15 83 ((q45_X12_holds_68 n I A J t x1 A15 v15_2)).toNatClampNeg) (A15 84 ((q45_X12_holds_68 n I A J t x1 A15 v15_2)).toNatClampNeg)) 84 ((q45_X12_holds_68 n I A J t x1 A15 v15_2)).toNatClampNeg) ((pA_X12_value_68 n I A15 J t (A15 83 ((q45_X12_holds_68 n I A J t x1 A15 v15_2)).toNatClampNeg) (A15 84 ((q45_X12_holds_68 n I A J t x1 A15 v15_2)).toNatClampNeg)) 85 ((q45_X12_holds_68 n I A J t x1 A15 v15_2)).toNatClampNeg)) J t) ?_ (fun hJ_145 => ?_)
                  rotate_left
                  · refine ev_icmp_ge (pc := 145) (tgt := 152) dX12_holds_145 (by decide) (fun c_145 => ?_) (fun c_145 => ?_)
                    · refine ev_iconst (pc := 152) (v := 0) dX12_holds_152 (by decide) ?_
                      refine ev_goto (pc := 153) (tgt := 168) dX12_holds_153 (by decide) ?_
                      simp only [qs0m145_X12_holds_68, if_pos c_145] at hJ_145
                      exact ev_loc hJ_145 cw_le0
                    · refine ev_iconst (pc := 148) (v := 1) dX12_holds_148 (by decide) ?_
                      refine ev_goto (pc := 149) (tgt := 168) dX12_holds_149 (by decide) ?_
                      simp only [qs0m145_X12_holds_68, if_neg c_145] at hJ_145
                      exact ev_loc hJ_145 cw_le0
                  simp only [qs0m138_X12_holds_68, if_pos c_138] at hJ_138
                  exact ev_loc hJ_138 cw_le0
              simp only [qs0m113_X12_holds_68, if_neg c_113] at hJ_113
              exact ev_loc hJ_113 cw_le0
            · refine ev_iload (pc := 116) dX12_holds_116 rfl ?_
              refine ev_iload (pc := 118) dX12_holds_118 rfl ?_
              refine ev_cut (pj := 168) (Lj := [some (.ref (cw_z g + 68)), some (.int x1), some (.int v15_2), some (.int (q45_X12_holds_68 n I A J t x1 A15 v15_2)), some (.int (q62_X12_holds_68 n I A J t x1 A15 v15_2)), some (.int (q80_X12_holds_68 n I A J t x1 A15 v15_2)), none]) (stj := [(.int (qs0m120_X12_holds_68 n I A J t x1 A15 v15_2))]) (σj := hp g I (pA_X12_value_68 n I (pA_X12_value_68 n I A15 J t (A15 83 ((q45_X12_holds_68 n I A J t x1 A15 v15_2)).toNatClampNeg) (A15 84 ((q45_X12_holds_68 n I A J t x1 A15 v15_2)).toNatClampNeg)) J t ((pA_X12_value_68 n I A15 J t (A15 83 ((q45_X12_holds_68 n I A J t x1 A15 v15_2)).toNatClampNeg) (A15 84 ((q45_X12_holds_68 n I A J t x1 A15 v15_2)).toNatClampNeg)) 84 ((q45_X12_holds_68 n I A J t x1 A15 v15_2)).toNatClampNeg) ((pA_X12_value_68 n I A15 J t (A15 83 ((q45_X12_holds_68 n I A J t x1 A15 v15_2)).toNatClampNeg) (A15 84 ((q45_X12_holds_68 n I A J t x1 A15 v15_2)).toNatClampNeg)) 85 ((q45_X12_holds_68 n I A J t x1 A15 v15_2)).toNatClampNeg)) J t) ?_ (fun hJ_120 => ?_)
              rotate_left
              · refine ev_icmp_eq (pc := 120) (tgt := 127) dX12_holds_120 (by decide) (fun c_120 => ?_) (fun c_120 => ?_)
                · refine ev_iconst (pc := 127) (v := 0) dX12_holds_127 (by decide) ?_
                  refine ev_goto (pc := 128) (tgt := 168) dX12_holds_128 (by decide) ?_
                  simp only [qs0m120_X12_holds_68, if_pos c_120] at hJ_120
                  exact ev_loc hJ_120 cw_le0
                · refine ev_iconst (pc := 123) (v := 1) dX12_holds_123 (by decide) ?_
                  refine ev_goto (pc := 124) (tgt := 168) dX12_holds_124 (by decide) ?_
                  simp only [qs0m120_X12_holds_68, if_neg c_120] at hJ_120
                  exact ev_loc hJ_120 cw_le0
              simp only [qs0m113_X12_holds_68, if_pos c_113] at hJ_113
              exact ev_loc hJ_113 cw_le0
          simp only [qs0m88_X12_holds_68, if_neg c_88] at hJ_88
          exact ev_loc hJ_88 cw_le0
        · refine ev_iload (pc := 91) dX12_holds_91 rfl ?_
          refine ev_iload (pc := 93) dX12_holds_93 rfl ?_
          refine ev_cut (pj := 168) (Lj := [some (.ref (cw_z g + 68)), some (.int x1), some (.int v15_2), some (.int (q45_X12_holds_68 n I A J t x1 A15 v15_2)), some (.int (q62_X12_holds_68 n I A J t x1 A15 v15_2)), some (.int (q80_X12_holds_68 n I A J t x1 A15 v15_2)), none]) (stj := [(.int (qs0m95_X12_holds_68 n I A J t x1 A15 v15_2))]) (σj := hp g I (pA_X12_value_68 n I (pA_X12_value_68 n I A15 J t (A15 83 ((q45_X12_holds_68 n I A J t x1 A15 v15_2)).toNatClampNeg) (A15 84 ((q45_X12_holds_68 n I A J t x1 A15 v15_2)).toNatClampNeg)) J t ((pA_X12_value_68 n I A15 J t (A15 83 ((q45_X12_holds_68 n I A J t x1 A15 v15_2)).toNatClampNeg) (A15 84 ((q45_X12_holds_68 n I A J t x1 A15 v15_2)).toNatClampNeg)) 84 ((q45_X12_holds_68 n I A J t x1 A15 v15_2)).toNatClampNeg) ((pA_X12_value_68 n I A15 J t (A15 83 ((q45_X12_holds_68 n I A J t x1 A15 v15_2)).toNatClampNeg) (A15 84 ((q45_X12_holds_68 n I A J t x1 A15 v15_2)).toNatClampNeg)) 85 ((q45_X12_holds_68 n I A J t x1 A15 v15_2)).toNatClampNeg)) J t) ?_ (fun hJ_95 => ?_)
          rotate_left
          · refine ev_icmp_ne (pc := 95) (tgt := 102) dX12_holds_95 (by decide) (fun c_95 => ?_) (fun c_95 => ?_)
            · refine ev_iconst (pc := 102) (v := 0) dX12_holds_102 (by decide) ?_
              refine ev_goto (pc := 103) (tgt := 168) dX12_holds_103 (by decide) ?_
              simp only [qs0m95_X12_holds_68, if_neg c_95] at hJ_95
              exact ev_loc hJ_95 cw_le0
            · refine ev_iconst (pc := 98) (v := 1) dX12_holds_98 (by decide) ?_
              refine ev_goto (pc := 99) (tgt := 168) dX12_holds_99 (by decide) ?_
              simp only [qs0m95_X12_holds_68, if_pos c_95] at hJ_95
              exact ev_loc hJ_95 cw_le0
          simp only [qs0m88_X12_holds_68, if_pos c_88] at hJ_88
          exact ev_loc hJ_88 cw_le0
      refine ev_istore_6 (pc := 168) dX12_holds_168 (by decide) rfl ?_
      refine ev_iload (pc := 170) dX12_holds_170 rfl ?_
      have hT_172 := hb
      refine ev_if_ne (pc := 172) (tgt := 177) dX12_holds_172 (by decide) (fun c_172 => ?_) (fun c_172 => ?_)
      · have hb := hT_172 c_172
        try simp only [if_neg c_172] at hQ
        refine ev_iinc_2 (pc := 177) (v := (q177_X12_holds_68 n I A J t x1 A15 v15_2)) dX12_holds_177 (by decide) rfl rfl ?_
        refine ev_goto (pc := 180) (tgt := 15) dX12_holds_180 (by decide) ?_
        exact ev_mono (ev_loc (ih (pA_X12_value_68 n I (pA_X12_value_68 n I A15 J t (A15 83 ((q45_X12_holds_68 n I A J t x1 A15 v15_2)).toNatClampNeg) (A15 84 ((q45_X12_holds_68 n I A J t x1 A15 v15_2)).toNatClampNeg)) J t ((pA_X12_value_68 n I A15 J t (A15 83 ((q45_X12_holds_68 n I A J t x1 A15 v15_2)).toNatClampNeg) (A15 84 ((q45_X12_holds_68 n I A J t x1 A15 v15_2)).toNatClampNeg)) 84 ((q45_X12_holds_68 n I A J t x1 A15 v15_2)).toNatClampNeg) ((pA_X12_value_68 n I A15 J t (A15 83 ((q45_X12_holds_68 n I A J t x1 A15 v15_2)).toNatClampNeg) (A15 84 ((q45_X12_holds_68 n I A J t x1 A15 v15_2)).toNatClampNeg)) 85 ((q45_X12_holds_68 n I A J t x1 A15 v15_2)).toNatClampNeg)) (q177_X12_holds_68 n I A J t x1 A15 v15_2) hb) (cw_leS (cw_leS (cw_leS (cw_leN (cw_leN (cw_leN (cw_leN cw_le0)))))))) hQ
      · try simp only [if_pos c_172] at hQ
        refine ev_iconst (pc := 175) (v := 0) dX12_holds_175 (by decide) ?_
        exact ev_zret (pc := 176) dX12_holds_176 rfl rfl (by decide) (by decide) (hQ _ _ ⟨rfl, rfl⟩)

set_option maxRecDepth 100000 in
set_option maxHeartbeats 4000000 in
theorem cv_X12_holds_68 (g : cw_G) (n : Nat) (I : Nat → Nat → Int32) (A : Nat → Nat → Int32) (J : Nat → Nat → Int64) (t : Bool × Bool) (x1 : Int32) (hb : pb_X12_holds_68 n I A J t x1) : Cd g mX12_holds [(.ref (cw_z g + 68)), (.int x1)] (hp g I A J t) (some (.int (px_X12_holds_68 n I A J t x1))) (hp g I (pA_X12_holds_68 n I A J t x1) J t) := by
  unfold pb_X12_holds_68 at hb
  unfold px_X12_holds_68 pA_X12_holds_68
  refine Cd.of rfl (Nat.le_of_ble_eq_true rfl) (ev_gen (fun Q hQ => ?_))
  refine ev_aload_n (pc := 0) dX12_holds_0 rfl ?_
  refine tv_getr (pc := 1) (d := 80) dX12_holds_1 fl_X12_53 (by decide) rfl rfl ?_
  refine ev_bipush (pc := 4) (v := 21) dX12_holds_4 (by decide) ?_
  refine ev_aload_n (pc := 6) dX12_holds_6 rfl ?_
  refine tv_geti (pc := 7) dX12_holds_7 fl_X12_245 (by decide) rfl rfl ?_
  refine ev_imul (pc := 10) dX12_holds_10 ?_
  refine ev_iload_n (pc := 11) dX12_holds_11 rfl ?_
  refine ev_iadd (pc := 12) dX12_holds_12 ?_
  refine ev_iald (pc := 13) dX12_holds_13 (by decide) rfl hb.1 ?_
  replace hb := hb.2
  refine ev_is (y := (q14_X12_holds_68 n I A J t x1)) rfl ?_
  refine ev_istore_2 (pc := 14) dX12_holds_14 (by decide) rfl ?_
  exact ev_mono (ev_loc (lt_X12_holds_68_15 g n I A J t x1 n A (q14_X12_holds_68 n I A J t x1) hb) cw_le0) hQ

def qA6_X12_decides_68 (n : Nat) (I : Nat → Nat → Int32) (A : Nat → Nat → Int32) (J : Nat → Nat → Int64) (t : Bool × Bool) (x1 : Int32) (x2 : Int32) (x3 : Int32) (x4 : Int32) (x5 : Int32) (x6 : Int32) : Nat → Nat → Int32 := cw_u A 107 ((0 : Int32)).toNatClampNeg x2
def qA14_X12_decides_68 (n : Nat) (I : Nat → Nat → Int32) (A : Nat → Nat → Int32) (J : Nat → Nat → Int64) (t : Bool × Bool) (x1 : Int32) (x2 : Int32) (x3 : Int32) (x4 : Int32) (x5 : Int32) (x6 : Int32) : Nat → Nat → Int32 := cw_u (qA6_X12_decides_68 n I A J t x1 x2 x3 x4 x5 x6) 107 ((1 : Int32)).toNatClampNeg x5
def qA22_X12_decides_68 (n : Nat) (I : Nat → Nat → Int32) (A : Nat → Nat → Int32) (J : Nat → Nat → Int64) (t : Bool × Bool) (x1 : Int32) (x2 : Int32) (x3 : Int32) (x4 : Int32) (x5 : Int32) (x6 : Int32) : Nat → Nat → Int32 := cw_u (qA14_X12_decides_68 n I A J t x1 x2 x3 x4 x5 x6) 107 ((2 : Int32)).toNatClampNeg x4
def qA29_X12_decides_68 (n : Nat) (I : Nat → Nat → Int32) (A : Nat → Nat → Int32) (J : Nat → Nat → Int64) (t : Bool × Bool) (x1 : Int32) (x2 : Int32) (x3 : Int32) (x4 : Int32) (x5 : Int32) (x6 : Int32) : Nat → Nat → Int32 := cw_u (qA22_X12_decides_68 n I A J t x1 x2 x3 x4 x5 x6) 107 ((3 : Int32)).toNatClampNeg x3
def qA42_X12_decides_68 (n : Nat) (I : Nat → Nat → Int32) (A : Nat → Nat → Int32) (J : Nat → Nat → Int64) (t : Bool × Bool) (x1 : Int32) (x2 : Int32) (x3 : Int32) (x4 : Int32) (x5 : Int32) (x6 : Int32) : Nat → Nat → Int32 := cw_u (qA29_X12_decides_68 n I A J t x1 x2 x3 x4 x5 x6) 107 ((4 : Int32)).toNatClampNeg ((qA29_X12_decides_68 n I A J t x1 x2 x3 x4 x5 x6) 102 (x6).toNatClampNeg)
def qA54_X12_decides_68 (n : Nat) (I : Nat → Nat → Int32) (A : Nat → Nat → Int32) (J : Nat → Nat → Int64) (t : Bool × Bool) (x1 : Int32) (x2 : Int32) (x3 : Int32) (x4 : Int32) (x5 : Int32) (x6 : Int32) : Nat → Nat → Int32 := cw_u (qA42_X12_decides_68 n I A J t x1 x2 x3 x4 x5 x6) 107 ((5 : Int32)).toNatClampNeg ((qA42_X12_decides_68 n I A J t x1 x2 x3 x4 x5 x6) 93 (x1).toNatClampNeg)
def qA68_X12_decides_68 (n : Nat) (I : Nat → Nat → Int32) (A : Nat → Nat → Int32) (J : Nat → Nat → Int64) (t : Bool × Bool) (x1 : Int32) (x2 : Int32) (x3 : Int32) (x4 : Int32) (x5 : Int32) (x6 : Int32) : Nat → Nat → Int32 := cw_u (qA54_X12_decides_68 n I A J t x1 x2 x3 x4 x5 x6) 107 ((6 : Int32)).toNatClampNeg ((qA54_X12_decides_68 n I A J t x1 x2 x3 x4 x5 x6) 100 (x6).toNatClampNeg)
def qA77_X12_decides_68 (n : Nat) (I : Nat → Nat → Int32) (A : Nat → Nat → Int32) (J : Nat → Nat → Int64) (t : Bool × Bool) (x1 : Int32) (x2 : Int32) (x3 : Int32) (x4 : Int32) (x5 : Int32) (x6 : Int32) : Nat → Nat → Int32 := cw_u (qA68_X12_decides_68 n I A J t x1 x2 x3 x4 x5 x6) 107 ((7 : Int32)).toNatClampNeg x6
def q105_X12_decides_68 (n : Nat) (I : Nat → Nat → Int32) (A : Nat → Nat → Int32) (J : Nat → Nat → Int64) (t : Bool × Bool) (x1 : Int32) (x2 : Int32) (x3 : Int32) (x4 : Int32) (x5 : Int32) (x6 : Int32) (A81 : Nat → Nat → Int32) (v81_7 : Int32) : Int32 := (((20 : Int32) * (I 68 18)) + v81_7)
def q154_X12_decides_68 (n : Nat) (I : Nat → Nat → Int32) (A : Nat → Nat → Int32) (J : Nat → Nat → Int64) (t : Bool × Bool) (x1 : Int32) (x2 : Int32) (x3 : Int32) (x4 : Int32) (x5 : Int32) (x6 : Int32) (A81 : Nat → Nat → Int32) (v81_7 : Int32) : Int32 := v81_7 + 1
def lp_X12_decides_68_81 (n : Nat) (I : Nat → Nat → Int32) (A : Nat → Nat → Int32) (J : Nat → Nat → Int64) (t : Bool × Bool) (x1 : Int32) (x2 : Int32) (x3 : Int32) (x4 : Int32) (x5 : Int32) (x6 : Int32) : Nat → (Nat → Nat → Int32) → (Int32) → Int32 × (Nat → Nat → Int32)
  | 0, A81, v81_7 => (0, A81)
  | f + 1, A81, v81_7 => if (A81 76 ((I 68 18)).toNatClampNeg) ≤ v81_7 then ((-1), A81) else if x4 < (A81 78 ((q105_X12_decides_68 n I A J t x1 x2 x3 x4 x5 x6 A81 v81_7)).toNatClampNeg) then lp_X12_decides_68_81 n I A J t x1 x2 x3 x4 x5 x6 f A81 (q154_X12_decides_68 n I A J t x1 x2 x3 x4 x5 x6 A81 v81_7) else if (A81 79 ((q105_X12_decides_68 n I A J t x1 x2 x3 x4 x5 x6 A81 v81_7)).toNatClampNeg) = (-1) then if (px_X12_holds_68 n I A81 J t v81_7) = 0 then lp_X12_decides_68_81 n I A J t x1 x2 x3 x4 x5 x6 f (pA_X12_holds_68 n I A81 J t v81_7) (q154_X12_decides_68 n I A J t x1 x2 x3 x4 x5 x6 A81 v81_7) else (v81_7, (pA_X12_holds_68 n I A81 J t v81_7)) else if (A81 79 ((q105_X12_decides_68 n I A J t x1 x2 x3 x4 x5 x6 A81 v81_7)).toNatClampNeg) ≤ x4 then lp_X12_decides_68_81 n I A J t x1 x2 x3 x4 x5 x6 f A81 (q154_X12_decides_68 n I A J t x1 x2 x3 x4 x5 x6 A81 v81_7) else if (px_X12_holds_68 n I A81 J t v81_7) = 0 then lp_X12_decides_68_81 n I A J t x1 x2 x3 x4 x5 x6 f (pA_X12_holds_68 n I A81 J t v81_7) (q154_X12_decides_68 n I A J t x1 x2 x3 x4 x5 x6 A81 v81_7) else (v81_7, (pA_X12_holds_68 n I A81 J t v81_7))
def lb_X12_decides_68_81 (n : Nat) (I : Nat → Nat → Int32) (A : Nat → Nat → Int32) (J : Nat → Nat → Int64) (t : Bool × Bool) (x1 : Int32) (x2 : Int32) (x3 : Int32) (x4 : Int32) (x5 : Int32) (x6 : Int32) : Nat → (Nat → Nat → Int32) → (Int32) → Prop
  | 0, _, _ => False
  | f + 1, A81, v81_7 => vp_in (I 68 18) 2 ∧ (¬ (A81 76 ((I 68 18)).toNatClampNeg) ≤ v81_7 → vp_in (q105_X12_decides_68 n I A J t x1 x2 x3 x4 x5 x6 A81 v81_7) 40 ∧ (x4 < (A81 78 ((q105_X12_decides_68 n I A J t x1 x2 x3 x4 x5 x6 A81 v81_7)).toNatClampNeg) → lb_X12_decides_68_81 n I A J t x1 x2 x3 x4 x5 x6 f A81 (q154_X12_decides_68 n I A J t x1 x2 x3 x4 x5 x6 A81 v81_7)) ∧ (¬ x4 < (A81 78 ((q105_X12_decides_68 n I A J t x1 x2 x3 x4 x5 x6 A81 v81_7)).toNatClampNeg) → vp_in (q105_X12_decides_68 n I A J t x1 x2 x3 x4 x5 x6 A81 v81_7) 40 ∧ ((A81 79 ((q105_X12_decides_68 n I A J t x1 x2 x3 x4 x5 x6 A81 v81_7)).toNatClampNeg) = (-1) → pb_X12_holds_68 n I A81 J t v81_7 ∧ ((px_X12_holds_68 n I A81 J t v81_7) = 0 → lb_X12_decides_68_81 n I A J t x1 x2 x3 x4 x5 x6 f (pA_X12_holds_68 n I A81 J t v81_7) (q154_X12_decides_68 n I A J t x1 x2 x3 x4 x5 x6 A81 v81_7))) ∧ (¬ (A81 79 ((q105_X12_decides_68 n I A J t x1 x2 x3 x4 x5 x6 A81 v81_7)).toNatClampNeg) = (-1) → vp_in (q105_X12_decides_68 n I A J t x1 x2 x3 x4 x5 x6 A81 v81_7) 40 ∧ ((A81 79 ((q105_X12_decides_68 n I A J t x1 x2 x3 x4 x5 x6 A81 v81_7)).toNatClampNeg) ≤ x4 → lb_X12_decides_68_81 n I A J t x1 x2 x3 x4 x5 x6 f A81 (q154_X12_decides_68 n I A J t x1 x2 x3 x4 x5 x6 A81 v81_7)) ∧ (¬ (A81 79 ((q105_X12_decides_68 n I A J t x1 x2 x3 x4 x5 x6 A81 v81_7)).toNatClampNeg) ≤ x4 → pb_X12_holds_68 n I A81 J t v81_7 ∧ ((px_X12_holds_68 n I A81 J t v81_7) = 0 → lb_X12_decides_68_81 n I A J t x1 x2 x3 x4 x5 x6 f (pA_X12_holds_68 n I A81 J t v81_7) (q154_X12_decides_68 n I A J t x1 x2 x3 x4 x5 x6 A81 v81_7))))))
def pb_X12_decides_68 (n : Nat) (I : Nat → Nat → Int32) (A : Nat → Nat → Int32) (J : Nat → Nat → Int64) (t : Bool × Bool) (x1 : Int32) (x2 : Int32) (x3 : Int32) (x4 : Int32) (x5 : Int32) (x6 : Int32) : Prop := vp_in 0 8 ∧ vp_in 1 8 ∧ vp_in 2 8 ∧ vp_in 3 8 ∧ vp_in x6 300 ∧ vp_in 4 8 ∧ vp_in x1 6 ∧ vp_in 5 8 ∧ vp_in x6 300 ∧ vp_in 6 8 ∧ vp_in 7 8 ∧ lb_X12_decides_68_81 n I A J t x1 x2 x3 x4 x5 x6 n (qA77_X12_decides_68 n I A J t x1 x2 x3 x4 x5 x6) 0
def px_X12_decides_68 (n : Nat) (I : Nat → Nat → Int32) (A : Nat → Nat → Int32) (J : Nat → Nat → Int64) (t : Bool × Bool) (x1 : Int32) (x2 : Int32) (x3 : Int32) (x4 : Int32) (x5 : Int32) (x6 : Int32) : Int32 := (lp_X12_decides_68_81 n I A J t x1 x2 x3 x4 x5 x6 n (qA77_X12_decides_68 n I A J t x1 x2 x3 x4 x5 x6) 0).1
def pA_X12_decides_68 (n : Nat) (I : Nat → Nat → Int32) (A : Nat → Nat → Int32) (J : Nat → Nat → Int64) (t : Bool × Bool) (x1 : Int32) (x2 : Int32) (x3 : Int32) (x4 : Int32) (x5 : Int32) (x6 : Int32) : Nat → Nat → Int32 := (lp_X12_decides_68_81 n I A J t x1 x2 x3 x4 x5 x6 n (qA77_X12_decides_68 n I A J t x1 x2 x3 x4 x5 x6) 0).2
set_option maxRecDepth 100000 in
set_option maxHeartbeats 4000000 in
theorem lt_X12_decides_68_81 (g : cw_G) (n : Nat) (I : Nat → Nat → Int32) (A : Nat → Nat → Int32) (J : Nat → Nat → Int64) (t : Bool × Bool) (x1 : Int32) (x2 : Int32) (x3 : Int32) (x4 : Int32) (x5 : Int32) (x6 : Int32) : ∀ (f : Nat) (A81 : Nat → Nat → Int32) (v81_7 : Int32), lb_X12_decides_68_81 n I A J t x1 x2 x3 x4 x5 x6 f A81 v81_7 → Ev g mX12_decides 0 0 81 [some (.ref (cw_z g + 68)), some (.int x1), some (.int x2), some (.int x3), some (.int x4), some (.int x5), some (.int x6), some (.int v81_7), none] [] (hp g I A81 J t) (fun r2 τ2 => r2 = some (.int (lp_X12_decides_68_81 n I A J t x1 x2 x3 x4 x5 x6 f A81 v81_7).1) ∧ τ2 = (hp g I (lp_X12_decides_68_81 n I A J t x1 x2 x3 x4 x5 x6 f A81 v81_7).2 J t)) := by
  intro f
  induction f with
  | zero =>
    intro A81 v81_7 hb
    exact hb.elim
  | succ f ih =>
    intro A81 v81_7 hb
    rw [lb_X12_decides_68_81] at hb
    refine ev_gen (fun Q hQ => ?_)
    rw [lp_X12_decides_68_81] at hQ
    refine ev_iload (pc := 81) dX12_decides_81 rfl ?_
    refine ev_aload_n (pc := 83) dX12_decides_83 rfl ?_
    refine tv_getr (pc := 84) (d := 76) dX12_decides_84 fl_X12_40 (by decide) rfl rfl ?_
    refine ev_aload_n (pc := 87) dX12_decides_87 rfl ?_
    refine tv_geti (pc := 88) dX12_decides_88 fl_X12_245 (by decide) rfl rfl ?_
    refine ev_iald (pc := 91) dX12_decides_91 (by decide) rfl hb.1 ?_
    replace hb := hb.2
    have hF_92 := hb
    refine ev_icmp_ge (pc := 92) (tgt := 160) dX12_decides_92 (by decide) (fun c_92 => ?_) (fun c_92 => ?_)
    · try simp only [if_pos c_92] at hQ
      refine ev_iconst (pc := 160) (v := (-1)) dX12_decides_160 (by decide) ?_
      exact ev_iret (pc := 161) dX12_decides_161 rfl (by decide) (by decide) (hQ _ _ ⟨rfl, rfl⟩)
    · have hb := hF_92 c_92
      try simp only [if_neg c_92] at hQ
      refine ev_bipush (pc := 95) (v := 20) dX12_decides_95 (by decide) ?_
      refine ev_aload_n (pc := 97) dX12_decides_97 rfl ?_
      refine tv_geti (pc := 98) dX12_decides_98 fl_X12_245 (by decide) rfl rfl ?_
      refine ev_imul (pc := 101) dX12_decides_101 ?_
      refine ev_iload (pc := 102) dX12_decides_102 rfl ?_
      refine ev_iadd (pc := 104) dX12_decides_104 ?_
      refine ev_is (y := (q105_X12_decides_68 n I A J t x1 x2 x3 x4 x5 x6 A81 v81_7)) rfl ?_
      refine ev_istore_8 (pc := 105) dX12_decides_105 (by decide) rfl ?_
      refine ev_iload (pc := 107) dX12_decides_107 rfl ?_
      refine ev_aload_n (pc := 109) dX12_decides_109 rfl ?_
      refine tv_getr (pc := 110) (d := 78) dX12_decides_110 fl_X12_47 (by decide) rfl rfl ?_
      refine ev_iload (pc := 113) dX12_decides_113 rfl ?_
      refine ev_iald (pc := 115) dX12_decides_115 (by decide) rfl hb.1 ?_
      replace hb := hb.2
      obtain ⟨hT_116, hF_116⟩ := hb
      refine ev_icmp_lt (pc := 116) (tgt := 154) dX12_decides_116 (by decide) (fun c_116 => ?_) (fun c_116 => ?_)
      · have hb := hT_116 c_116
        try simp only [if_pos c_116] at hQ
        refine ev_iinc_7 (pc := 154) (v := (q154_X12_decides_68 n I A J t x1 x2 x3 x4 x5 x6 A81 v81_7)) dX12_decides_154 (by decide) rfl rfl ?_
        refine ev_goto (pc := 157) (tgt := 81) dX12_decides_157 (by decide) ?_
        exact ev_mono (ev_loc (ih A81 (q154_X12_decides_68 n I A J t x1 x2 x3 x4 x5 x6 A81 v81_7) hb) (cw_leS (cw_leS (cw_leS (cw_leS (cw_leS (cw_leS (cw_leS (cw_leS (cw_leN cw_le0)))))))))) hQ
      · have hb := hF_116 c_116
        try simp only [if_neg c_116] at hQ
        refine ev_aload_n (pc := 119) dX12_decides_119 rfl ?_
        refine tv_getr (pc := 120) (d := 79) dX12_decides_120 fl_X12_50 (by decide) rfl rfl ?_
        refine ev_iload (pc := 123) dX12_decides_123 rfl ?_
        refine ev_iald (pc := 125) dX12_decides_125 (by decide) rfl hb.1 ?_
        replace hb := hb.2
        refine ev_iconst (pc := 126) (v := (-1)) dX12_decides_126 (by decide) ?_
        obtain ⟨hT_127, hF_127⟩ := hb
        refine ev_icmp_eq (pc := 127) (tgt := 142) dX12_decides_127 (by decide) (fun c_127 => ?_) (fun c_127 => ?_)
        · have hb := hT_127 c_127
          try simp only [if_pos c_127] at hQ
          refine ev_aload_n (pc := 142) dX12_decides_142 rfl ?_
          refine ev_iload (pc := 143) dX12_decides_143 rfl ?_
          refine ev_Vi (pc := 145) dX12_decides_145 lk_X12_356 cd_X12_holds ar_X12_holds ⟨by decide, rfl, rfl⟩ (cv_X12_holds_68 g n I A81 J t v81_7 hb.1) (show 68 < 120 by decide) rfl rfl rfl rfl (Nat.le_of_ble_eq_true rfl) ⟨by decide, by decide⟩ ?_
          replace hb := hb.2
          have hT_148 := hb
          refine ev_if_eq (pc := 148) (tgt := 154) dX12_decides_148 (by decide) (fun c_148 => ?_) (fun c_148 => ?_)
          · have hb := hT_148 c_148
            try simp only [if_pos c_148] at hQ
            refine ev_iinc_7 (pc := 154) (v := (q154_X12_decides_68 n I A J t x1 x2 x3 x4 x5 x6 A81 v81_7)) dX12_decides_154 (by decide) rfl rfl ?_
            refine ev_goto (pc := 157) (tgt := 81) dX12_decides_157 (by decide) ?_
            exact ev_mono (ev_loc (ih (pA_X12_holds_68 n I A81 J t v81_7) (q154_X12_decides_68 n I A J t x1 x2 x3 x4 x5 x6 A81 v81_7) hb) (cw_leS (cw_leS (cw_leS (cw_leS (cw_leS (cw_leS (cw_leS (cw_leS (cw_leN cw_le0)))))))))) hQ
          · try simp only [if_neg c_148] at hQ
            refine ev_iload (pc := 151) dX12_decides_151 rfl ?_
            exact ev_iret (pc := 153) dX12_decides_153 rfl (by decide) (by decide) (hQ _ _ ⟨rfl, rfl⟩)
        · have hb := hF_127 c_127
          try simp only [if_neg c_127] at hQ
          refine ev_iload (pc := 130) dX12_decides_130 rfl ?_
          refine ev_aload_n (pc := 132) dX12_decides_132 rfl ?_
          refine tv_getr (pc := 133) (d := 79) dX12_decides_133 fl_X12_50 (by decide) rfl rfl ?_
          refine ev_iload (pc := 136) dX12_decides_136 rfl ?_
          refine ev_iald (pc := 138) dX12_decides_138 (by decide) rfl hb.1 ?_
          replace hb := hb.2
          obtain ⟨hT_139, hF_139⟩ := hb
          refine ev_icmp_ge (pc := 139) (tgt := 154) dX12_decides_139 (by decide) (fun c_139 => ?_) (fun c_139 => ?_)
          · have hb := hT_139 c_139
            try simp only [if_pos c_139] at hQ
            refine ev_iinc_7 (pc := 154) (v := (q154_X12_decides_68 n I A J t x1 x2 x3 x4 x5 x6 A81 v81_7)) dX12_decides_154 (by decide) rfl rfl ?_
            refine ev_goto (pc := 157) (tgt := 81) dX12_decides_157 (by decide) ?_
            exact ev_mono (ev_loc (ih A81 (q154_X12_decides_68 n I A J t x1 x2 x3 x4 x5 x6 A81 v81_7) hb) (cw_leS (cw_leS (cw_leS (cw_leS (cw_leS (cw_leS (cw_leS (cw_leS (cw_leN cw_le0)))))))))) hQ
          · have hb := hF_139 c_139
            try simp only [if_neg c_139] at hQ
            refine ev_aload_n (pc := 142) dX12_decides_142 rfl ?_
            refine ev_iload (pc := 143) dX12_decides_143 rfl ?_
            refine ev_Vi (pc := 145) dX12_decides_145 lk_X12_356 cd_X12_holds ar_X12_holds ⟨by decide, rfl, rfl⟩ (cv_X12_holds_68 g n I A81 J t v81_7 hb.1) (show 68 < 120 by decide) rfl rfl rfl rfl (Nat.le_of_ble_eq_true rfl) ⟨by decide, by decide⟩ ?_
            replace hb := hb.2
            have hT_148 := hb
            refine ev_if_eq (pc := 148) (tgt := 154) dX12_decides_148 (by decide) (fun c_148 => ?_) (fun c_148 => ?_)
            · have hb := hT_148 c_148
              try simp only [if_pos c_148] at hQ
              refine ev_iinc_7 (pc := 154) (v := (q154_X12_decides_68 n I A J t x1 x2 x3 x4 x5 x6 A81 v81_7)) dX12_decides_154 (by decide) rfl rfl ?_
              refine ev_goto (pc := 157) (tgt := 81) dX12_decides_157 (by decide) ?_
              exact ev_mono (ev_loc (ih (pA_X12_holds_68 n I A81 J t v81_7) (q154_X12_decides_68 n I A J t x1 x2 x3 x4 x5 x6 A81 v81_7) hb) (cw_leS (cw_leS (cw_leS (cw_leS (cw_leS (cw_leS (cw_leS (cw_leS (cw_leN cw_le0)))))))))) hQ
            · try simp only [if_neg c_148] at hQ
              refine ev_iload (pc := 151) dX12_decides_151 rfl ?_
              exact ev_iret (pc := 153) dX12_decides_153 rfl (by decide) (by decide) (hQ _ _ ⟨rfl, rfl⟩)

set_option maxRecDepth 100000 in
set_option maxHeartbeats 4000000 in
theorem cv_X12_decides_68 (g : cw_G) (n : Nat) (I : Nat → Nat → Int32) (A : Nat → Nat → Int32) (J : Nat → Nat → Int64) (t : Bool × Bool) (x1 : Int32) (x2 : Int32) (x3 : Int32) (x4 : Int32) (x5 : Int32) (x6 : Int32) (hb : pb_X12_decides_68 n I A J t x1 x2 x3 x4 x5 x6) : Cd g mX12_decides [(.ref (cw_z g + 68)), (.int x1), (.int x2), (.int x3), (.int x4), (.int x5), (.int x6)] (hp g I A J t) (some (.int (px_X12_decides_68 n I A J t x1 x2 x3 x4 x5 x6))) (hp g I (pA_X12_decides_68 n I A J t x1 x2 x3 x4 x5 x6) J t) := by
  unfold pb_X12_decides_68 at hb
  unfold px_X12_decides_68 pA_X12_decides_68
  refine Cd.of rfl (Nat.le_of_ble_eq_true rfl) (ev_gen (fun Q hQ => ?_))
  refine ev_aload_n (pc := 0) dX12_decides_0 rfl ?_
  refine tv_getr (pc := 1) (d := 107) dX12_decides_1 fl_X12_134 (by decide) rfl rfl ?_
  refine ev_iconst (pc := 4) (v := 0) dX12_decides_4 (by decide) ?_
  refine ev_iload_n (pc := 5) dX12_decides_5 rfl ?_
  refine tw_iast (pc := 6) (A2 := (qA6_X12_decides_68 n I A J t x1 x2 x3 x4 x5 x6)) dX12_decides_6 (by decide) rfl hb.1 rfl ?_
  replace hb := hb.2
  refine ev_aload_n (pc := 7) dX12_decides_7 rfl ?_
  refine tv_getr (pc := 8) (d := 107) dX12_decides_8 fl_X12_134 (by decide) rfl rfl ?_
  refine ev_iconst (pc := 11) (v := 1) dX12_decides_11 (by decide) ?_
  refine ev_iload (pc := 12) dX12_decides_12 rfl ?_
  refine tw_iast (pc := 14) (A2 := (qA14_X12_decides_68 n I A J t x1 x2 x3 x4 x5 x6)) dX12_decides_14 (by decide) rfl hb.1 rfl ?_
  replace hb := hb.2
  refine ev_aload_n (pc := 15) dX12_decides_15 rfl ?_
  refine tv_getr (pc := 16) (d := 107) dX12_decides_16 fl_X12_134 (by decide) rfl rfl ?_
  refine ev_iconst (pc := 19) (v := 2) dX12_decides_19 (by decide) ?_
  refine ev_iload (pc := 20) dX12_decides_20 rfl ?_
  refine tw_iast (pc := 22) (A2 := (qA22_X12_decides_68 n I A J t x1 x2 x3 x4 x5 x6)) dX12_decides_22 (by decide) rfl hb.1 rfl ?_
  replace hb := hb.2
  refine ev_aload_n (pc := 23) dX12_decides_23 rfl ?_
  refine tv_getr (pc := 24) (d := 107) dX12_decides_24 fl_X12_134 (by decide) rfl rfl ?_
  refine ev_iconst (pc := 27) (v := 3) dX12_decides_27 (by decide) ?_
  refine ev_iload_n (pc := 28) dX12_decides_28 rfl ?_
  refine tw_iast (pc := 29) (A2 := (qA29_X12_decides_68 n I A J t x1 x2 x3 x4 x5 x6)) dX12_decides_29 (by decide) rfl hb.1 rfl ?_
  replace hb := hb.2
  refine ev_aload_n (pc := 30) dX12_decides_30 rfl ?_
  refine tv_getr (pc := 31) (d := 107) dX12_decides_31 fl_X12_134 (by decide) rfl rfl ?_
  refine ev_iconst (pc := 34) (v := 4) dX12_decides_34 (by decide) ?_
  refine ev_aload_n (pc := 35) dX12_decides_35 rfl ?_
  refine tv_getr (pc := 36) (d := 102) dX12_decides_36 fl_X12_119 (by decide) rfl rfl ?_
  refine ev_iload (pc := 39) dX12_decides_39 rfl ?_
  refine ev_iald (pc := 41) dX12_decides_41 (by decide) rfl hb.1 ?_
  replace hb := hb.2
  refine tw_iast (pc := 42) (A2 := (qA42_X12_decides_68 n I A J t x1 x2 x3 x4 x5 x6)) dX12_decides_42 (by decide) rfl hb.1 rfl ?_
  replace hb := hb.2
  refine ev_aload_n (pc := 43) dX12_decides_43 rfl ?_
  refine tv_getr (pc := 44) (d := 107) dX12_decides_44 fl_X12_134 (by decide) rfl rfl ?_
  refine ev_iconst (pc := 47) (v := 5) dX12_decides_47 (by decide) ?_
  refine ev_aload_n (pc := 48) dX12_decides_48 rfl ?_
  refine tv_getr (pc := 49) (d := 93) dX12_decides_49 fl_X12_92 (by decide) rfl rfl ?_
  refine ev_iload_n (pc := 52) dX12_decides_52 rfl ?_
  refine ev_iald (pc := 53) dX12_decides_53 (by decide) rfl hb.1 ?_
  replace hb := hb.2
  refine tw_iast (pc := 54) (A2 := (qA54_X12_decides_68 n I A J t x1 x2 x3 x4 x5 x6)) dX12_decides_54 (by decide) rfl hb.1 rfl ?_
  replace hb := hb.2
  refine ev_aload_n (pc := 55) dX12_decides_55 rfl ?_
  refine tv_getr (pc := 56) (d := 107) dX12_decides_56 fl_X12_134 (by decide) rfl rfl ?_
  refine ev_bipush (pc := 59) (v := 6) dX12_decides_59 (by decide) ?_
  refine ev_aload_n (pc := 61) dX12_decides_61 rfl ?_
  refine tv_getr (pc := 62) (d := 100) dX12_decides_62 fl_X12_113 (by decide) rfl rfl ?_
  refine ev_iload (pc := 65) dX12_decides_65 rfl ?_
  refine ev_iald (pc := 67) dX12_decides_67 (by decide) rfl hb.1 ?_
  replace hb := hb.2
  refine tw_iast (pc := 68) (A2 := (qA68_X12_decides_68 n I A J t x1 x2 x3 x4 x5 x6)) dX12_decides_68 (by decide) rfl hb.1 rfl ?_
  replace hb := hb.2
  refine ev_aload_n (pc := 69) dX12_decides_69 rfl ?_
  refine tv_getr (pc := 70) (d := 107) dX12_decides_70 fl_X12_134 (by decide) rfl rfl ?_
  refine ev_bipush (pc := 73) (v := 7) dX12_decides_73 (by decide) ?_
  refine ev_iload (pc := 75) dX12_decides_75 rfl ?_
  refine tw_iast (pc := 77) (A2 := (qA77_X12_decides_68 n I A J t x1 x2 x3 x4 x5 x6)) dX12_decides_77 (by decide) rfl hb.1 rfl ?_
  replace hb := hb.2
  refine ev_iconst (pc := 78) (v := 0) dX12_decides_78 (by decide) ?_
  refine ev_istore_7 (pc := 79) dX12_decides_79 (by decide) rfl ?_
  exact ev_mono (ev_loc (lt_X12_decides_68_81 g n I A J t x1 x2 x3 x4 x5 x6 n (qA77_X12_decides_68 n I A J t x1 x2 x3 x4 x5 x6) 0 hb) cw_le0) hQ

def q41_X12_yieldsTo_68 (n : Nat) (I : Nat → Nat → Int32) (A : Nat → Nat → Int32) (J : Nat → Nat → Int64) (t : Bool × Bool) (x1 : Int32) (x2 : Int32) (x3 : Int32) (x4 : Int32) (x5 : Int32) (x6 : Int32) (I3 : Nat → Nat → Int32) (A3 : Nat → Nat → Int32) (v3_7 : Int32) : Int32 := (px_X12_decides_68 n (pI_X12_clashes_68 n I3 A3 J t x2 x3 x4 x5 v3_7) A3 J t x1 x2 x3 x4 x5 v3_7)
def q70_X12_yieldsTo_68 (n : Nat) (I : Nat → Nat → Int32) (A : Nat → Nat → Int32) (J : Nat → Nat → Int64) (t : Bool × Bool) (x1 : Int32) (x2 : Int32) (x3 : Int32) (x4 : Int32) (x5 : Int32) (x6 : Int32) (I3 : Nat → Nat → Int32) (A3 : Nat → Nat → Int32) (v3_7 : Int32) : Int32 := v3_7 + 1
def lp_X12_yieldsTo_68_3 (n : Nat) (I : Nat → Nat → Int32) (A : Nat → Nat → Int32) (J : Nat → Nat → Int64) (t : Bool × Bool) (x1 : Int32) (x2 : Int32) (x3 : Int32) (x4 : Int32) (x5 : Int32) (x6 : Int32) : Nat → (Nat → Nat → Int32) → (Nat → Nat → Int32) → (Int32) → Int32 × (Nat → Nat → Int32) × (Nat → Nat → Int32)
  | 0, I3, A3, v3_7 => (0, I3, A3)
  | f + 1, I3, A3, v3_7 => if x6 ≤ v3_7 then ((-1), I3, A3) else if (px_X12_clashes_68 n I3 A3 J t x2 x3 x4 x5 v3_7) = 0 then lp_X12_yieldsTo_68_3 n I A J t x1 x2 x3 x4 x5 x6 f (pI_X12_clashes_68 n I3 A3 J t x2 x3 x4 x5 v3_7) A3 (q70_X12_yieldsTo_68 n I A J t x1 x2 x3 x4 x5 x6 I3 A3 v3_7) else if (q41_X12_yieldsTo_68 n I A J t x1 x2 x3 x4 x5 x6 I3 A3 v3_7) = (-1) then (v3_7, (pI_X12_clashes_68 n I3 A3 J t x2 x3 x4 x5 v3_7), (pA_X12_decides_68 n (pI_X12_clashes_68 n I3 A3 J t x2 x3 x4 x5 v3_7) A3 J t x1 x2 x3 x4 x5 v3_7)) else if ((pA_X12_decides_68 n (pI_X12_clashes_68 n I3 A3 J t x2 x3 x4 x5 v3_7) A3 J t x1 x2 x3 x4 x5 v3_7) 77 ((((20 : Int32) * ((pI_X12_clashes_68 n I3 A3 J t x2 x3 x4 x5 v3_7) 68 18)) + (q41_X12_yieldsTo_68 n I A J t x1 x2 x3 x4 x5 x6 I3 A3 v3_7))).toNatClampNeg) = 0 then lp_X12_yieldsTo_68_3 n I A J t x1 x2 x3 x4 x5 x6 f (pI_X12_clashes_68 n I3 A3 J t x2 x3 x4 x5 v3_7) (pA_X12_decides_68 n (pI_X12_clashes_68 n I3 A3 J t x2 x3 x4 x5 v3_7) A3 J t x1 x2 x3 x4 x5 v3_7) (q70_X12_yieldsTo_68 n I A J t x1 x2 x3 x4 x5 x6 I3 A3 v3_7) else (v3_7, (pI_X12_clashes_68 n I3 A3 J t x2 x3 x4 x5 v3_7), (pA_X12_decides_68 n (pI_X12_clashes_68 n I3 A3 J t x2 x3 x4 x5 v3_7) A3 J t x1 x2 x3 x4 x5 v3_7))
def lb_X12_yieldsTo_68_3 (n : Nat) (I : Nat → Nat → Int32) (A : Nat → Nat → Int32) (J : Nat → Nat → Int64) (t : Bool × Bool) (x1 : Int32) (x2 : Int32) (x3 : Int32) (x4 : Int32) (x5 : Int32) (x6 : Int32) : Nat → (Nat → Nat → Int32) → (Nat → Nat → Int32) → (Int32) → Prop
  | 0, _, _, _ => False
  | f + 1, I3, A3, v3_7 => (¬ x6 ≤ v3_7 → pb_X12_clashes_68 n I3 A3 J t x2 x3 x4 x5 v3_7 ∧ (¬ (px_X12_clashes_68 n I3 A3 J t x2 x3 x4 x5 v3_7) = 0 → pb_X12_decides_68 n (pI_X12_clashes_68 n I3 A3 J t x2 x3 x4 x5 v3_7) A3 J t x1 x2 x3 x4 x5 v3_7 ∧ (¬ (q41_X12_yieldsTo_68 n I A J t x1 x2 x3 x4 x5 x6 I3 A3 v3_7) = (-1) → vp_in (((20 : Int32) * ((pI_X12_clashes_68 n I3 A3 J t x2 x3 x4 x5 v3_7) 68 18)) + (q41_X12_yieldsTo_68 n I A J t x1 x2 x3 x4 x5 x6 I3 A3 v3_7)) 40 ∧ (((pA_X12_decides_68 n (pI_X12_clashes_68 n I3 A3 J t x2 x3 x4 x5 v3_7) A3 J t x1 x2 x3 x4 x5 v3_7) 77 ((((20 : Int32) * ((pI_X12_clashes_68 n I3 A3 J t x2 x3 x4 x5 v3_7) 68 18)) + (q41_X12_yieldsTo_68 n I A J t x1 x2 x3 x4 x5 x6 I3 A3 v3_7))).toNatClampNeg) = 0 → lb_X12_yieldsTo_68_3 n I A J t x1 x2 x3 x4 x5 x6 f (pI_X12_clashes_68 n I3 A3 J t x2 x3 x4 x5 v3_7) (pA_X12_decides_68 n (pI_X12_clashes_68 n I3 A3 J t x2 x3 x4 x5 v3_7) A3 J t x1 x2 x3 x4 x5 v3_7) (q70_X12_yieldsTo_68 n I A J t x1 x2 x3 x4 x5 x6 I3 A3 v3_7)))) ∧ ((px_X12_clashes_68 n I3 A3 J t x2 x3 x4 x5 v3_7) = 0 → lb_X12_yieldsTo_68_3 n I A J t x1 x2 x3 x4 x5 x6 f (pI_X12_clashes_68 n I3 A3 J t x2 x3 x4 x5 v3_7) A3 (q70_X12_yieldsTo_68 n I A J t x1 x2 x3 x4 x5 x6 I3 A3 v3_7)))
def pb_X12_yieldsTo_68 (n : Nat) (I : Nat → Nat → Int32) (A : Nat → Nat → Int32) (J : Nat → Nat → Int64) (t : Bool × Bool) (x1 : Int32) (x2 : Int32) (x3 : Int32) (x4 : Int32) (x5 : Int32) (x6 : Int32) : Prop := lb_X12_yieldsTo_68_3 n I A J t x1 x2 x3 x4 x5 x6 n I A 0
def px_X12_yieldsTo_68 (n : Nat) (I : Nat → Nat → Int32) (A : Nat → Nat → Int32) (J : Nat → Nat → Int64) (t : Bool × Bool) (x1 : Int32) (x2 : Int32) (x3 : Int32) (x4 : Int32) (x5 : Int32) (x6 : Int32) : Int32 := (lp_X12_yieldsTo_68_3 n I A J t x1 x2 x3 x4 x5 x6 n I A 0).1
def pI_X12_yieldsTo_68 (n : Nat) (I : Nat → Nat → Int32) (A : Nat → Nat → Int32) (J : Nat → Nat → Int64) (t : Bool × Bool) (x1 : Int32) (x2 : Int32) (x3 : Int32) (x4 : Int32) (x5 : Int32) (x6 : Int32) : Nat → Nat → Int32 := (lp_X12_yieldsTo_68_3 n I A J t x1 x2 x3 x4 x5 x6 n I A 0).2.1
def pA_X12_yieldsTo_68 (n : Nat) (I : Nat → Nat → Int32) (A : Nat → Nat → Int32) (J : Nat → Nat → Int64) (t : Bool × Bool) (x1 : Int32) (x2 : Int32) (x3 : Int32) (x4 : Int32) (x5 : Int32) (x6 : Int32) : Nat → Nat → Int32 := (lp_X12_yieldsTo_68_3 n I A J t x1 x2 x3 x4 x5 x6 n I A 0).2.2
set_option maxRecDepth 100000 in
set_option maxHeartbeats 4000000 in
theorem lt_X12_yieldsTo_68_3 (g : cw_G) (n : Nat) (I : Nat → Nat → Int32) (A : Nat → Nat → Int32) (J : Nat → Nat → Int64) (t : Bool × Bool) (x1 : Int32) (x2 : Int32) (x3 : Int32) (x4 : Int32) (x5 : Int32) (x6 : Int32) : ∀ (f : Nat) (I3 : Nat → Nat → Int32) (A3 : Nat → Nat → Int32) (v3_7 : Int32), lb_X12_yieldsTo_68_3 n I A J t x1 x2 x3 x4 x5 x6 f I3 A3 v3_7 → Ev g mX12_yieldsTo 0 0 3 [some (.ref (cw_z g + 68)), some (.int x1), some (.int x2), some (.int x3), some (.int x4), some (.int x5), some (.int x6), some (.int v3_7), none] [] (hp g I3 A3 J t) (fun r2 τ2 => r2 = some (.int (lp_X12_yieldsTo_68_3 n I A J t x1 x2 x3 x4 x5 x6 f I3 A3 v3_7).1) ∧ τ2 = (hp g (lp_X12_yieldsTo_68_3 n I A J t x1 x2 x3 x4 x5 x6 f I3 A3 v3_7).2.1 (lp_X12_yieldsTo_68_3 n I A J t x1 x2 x3 x4 x5 x6 f I3 A3 v3_7).2.2 J t)) := by
  intro f
  induction f with
  | zero =>
    intro I3 A3 v3_7 hb
    exact hb.elim
  | succ f ih =>
    intro I3 A3 v3_7 hb
    rw [lb_X12_yieldsTo_68_3] at hb
    refine ev_gen (fun Q hQ => ?_)
    rw [lp_X12_yieldsTo_68_3] at hQ
    refine ev_iload (pc := 3) dX12_yieldsTo_3 rfl ?_
    refine ev_iload (pc := 5) dX12_yieldsTo_5 rfl ?_
    have hF_7 := hb
    refine ev_icmp_ge (pc := 7) (tgt := 76) dX12_yieldsTo_7 (by decide) (fun c_7 => ?_) (fun c_7 => ?_)
    · try simp only [if_pos c_7] at hQ
      refine ev_iconst (pc := 76) (v := (-1)) dX12_yieldsTo_76 (by decide) ?_
      exact ev_iret (pc := 77) dX12_yieldsTo_77 rfl (by decide) (by decide) (hQ _ _ ⟨rfl, rfl⟩)
    · have hb := hF_7 c_7
      try simp only [if_neg c_7] at hQ
      refine ev_aload_n (pc := 10) dX12_yieldsTo_10 rfl ?_
      refine ev_iload_n (pc := 11) dX12_yieldsTo_11 rfl ?_
      refine ev_iload_n (pc := 12) dX12_yieldsTo_12 rfl ?_
      refine ev_iload (pc := 13) dX12_yieldsTo_13 rfl ?_
      refine ev_iload (pc := 15) dX12_yieldsTo_15 rfl ?_
      refine ev_iload (pc := 17) dX12_yieldsTo_17 rfl ?_
      refine ev_Vi (pc := 19) dX12_yieldsTo_19 lk_X12_359 cd_X12_clashes ar_X12_clashes ⟨by decide, rfl, rfl⟩ (cv_X12_clashes_68 g n I3 A3 J t x2 x3 x4 x5 v3_7 hb.1) (show 68 < 120 by decide) rfl rfl rfl rfl (Nat.le_of_ble_eq_true rfl) ⟨by decide, by decide⟩ ?_
      replace hb := hb.2
      obtain ⟨hT_22, hF_22⟩ := hb
      refine ev_if_ne (pc := 22) (tgt := 28) dX12_yieldsTo_22 (by decide) (fun c_22 => ?_) (fun c_22 => ?_)
      · have hb := hT_22 c_22
        try simp only [if_neg c_22] at hQ
        refine ev_aload_n (pc := 28) dX12_yieldsTo_28 rfl ?_
        refine ev_iload_n (pc := 29) dX12_yieldsTo_29 rfl ?_
        refine ev_iload_n (pc := 30) dX12_yieldsTo_30 rfl ?_
        refine ev_iload_n (pc := 31) dX12_yieldsTo_31 rfl ?_
        refine ev_iload (pc := 32) dX12_yieldsTo_32 rfl ?_
        refine ev_iload (pc := 34) dX12_yieldsTo_34 rfl ?_
        refine ev_iload (pc := 36) dX12_yieldsTo_36 rfl ?_
        refine ev_Vi (pc := 38) dX12_yieldsTo_38 lk_X12_362 cd_X12_decides ar_X12_decides ⟨by decide, rfl, rfl⟩ (cv_X12_decides_68 g n (pI_X12_clashes_68 n I3 A3 J t x2 x3 x4 x5 v3_7) A3 J t x1 x2 x3 x4 x5 v3_7 hb.1) (show 68 < 120 by decide) rfl rfl rfl rfl (Nat.le_of_ble_eq_true rfl) ⟨by decide, by decide⟩ ?_
        replace hb := hb.2
        refine ev_is (y := (q41_X12_yieldsTo_68 n I A J t x1 x2 x3 x4 x5 x6 I3 A3 v3_7)) rfl ?_
        refine ev_istore_8 (pc := 41) dX12_yieldsTo_41 (by decide) rfl ?_
        refine ev_iload (pc := 43) dX12_yieldsTo_43 rfl ?_
        refine ev_iconst (pc := 45) (v := (-1)) dX12_yieldsTo_45 (by decide) ?_
        have hF_46 := hb
        refine ev_icmp_eq (pc := 46) (tgt := 67) dX12_yieldsTo_46 (by decide) (fun c_46 => ?_) (fun c_46 => ?_)
        · try simp only [if_pos c_46] at hQ
          refine ev_iload (pc := 67) dX12_yieldsTo_67 rfl ?_
          exact ev_iret (pc := 69) dX12_yieldsTo_69 rfl (by decide) (by decide) (hQ _ _ ⟨rfl, rfl⟩)
        · have hb := hF_46 c_46
          try simp only [if_neg c_46] at hQ
          refine ev_aload_n (pc := 49) dX12_yieldsTo_49 rfl ?_
          refine tv_getr (pc := 50) (d := 77) dX12_yieldsTo_50 fl_X12_43 (by decide) rfl rfl ?_
          refine ev_bipush (pc := 53) (v := 20) dX12_yieldsTo_53 (by decide) ?_
          refine ev_aload_n (pc := 55) dX12_yieldsTo_55 rfl ?_
          refine tv_geti (pc := 56) dX12_yieldsTo_56 fl_X12_245 (by decide) rfl rfl ?_
          refine ev_imul (pc := 59) dX12_yieldsTo_59 ?_
          refine ev_iload (pc := 60) dX12_yieldsTo_60 rfl ?_
          refine ev_iadd (pc := 62) dX12_yieldsTo_62 ?_
          refine ev_zald (pc := 63) dX12_yieldsTo_63 (by decide) rfl hb.1 ?_
          replace hb := hb.2
          have hT_64 := hb
          refine ev_if_eq (pc := 64) (tgt := 70) dX12_yieldsTo_64 (by decide) (fun c_64 => ?_) (fun c_64 => ?_)
          · have hb := hT_64 c_64
            try simp only [if_pos c_64] at hQ
            refine ev_iinc_7 (pc := 70) (v := (q70_X12_yieldsTo_68 n I A J t x1 x2 x3 x4 x5 x6 I3 A3 v3_7)) dX12_yieldsTo_70 (by decide) rfl rfl ?_
            refine ev_goto (pc := 73) (tgt := 3) dX12_yieldsTo_73 (by decide) ?_
            exact ev_mono (ev_loc (ih (pI_X12_clashes_68 n I3 A3 J t x2 x3 x4 x5 v3_7) (pA_X12_decides_68 n (pI_X12_clashes_68 n I3 A3 J t x2 x3 x4 x5 v3_7) A3 J t x1 x2 x3 x4 x5 v3_7) (q70_X12_yieldsTo_68 n I A J t x1 x2 x3 x4 x5 x6 I3 A3 v3_7) hb) (cw_leS (cw_leS (cw_leS (cw_leS (cw_leS (cw_leS (cw_leS (cw_leS (cw_leN cw_le0)))))))))) hQ
          · try simp only [if_neg c_64] at hQ
            refine ev_iload (pc := 67) dX12_yieldsTo_67 rfl ?_
            exact ev_iret (pc := 69) dX12_yieldsTo_69 rfl (by decide) (by decide) (hQ _ _ ⟨rfl, rfl⟩)
      · have hb := hF_22 c_22
        try simp only [if_pos c_22] at hQ
        refine ev_goto (pc := 25) (tgt := 70) dX12_yieldsTo_25 (by decide) ?_
        refine ev_iinc_7 (pc := 70) (v := (q70_X12_yieldsTo_68 n I A J t x1 x2 x3 x4 x5 x6 I3 A3 v3_7)) dX12_yieldsTo_70 (by decide) rfl rfl ?_
        refine ev_goto (pc := 73) (tgt := 3) dX12_yieldsTo_73 (by decide) ?_
        exact ev_mono (ev_loc (ih (pI_X12_clashes_68 n I3 A3 J t x2 x3 x4 x5 v3_7) A3 (q70_X12_yieldsTo_68 n I A J t x1 x2 x3 x4 x5 x6 I3 A3 v3_7) hb) cw_le0) hQ

set_option maxRecDepth 100000 in
set_option maxHeartbeats 4000000 in
theorem cv_X12_yieldsTo_68 (g : cw_G) (n : Nat) (I : Nat → Nat → Int32) (A : Nat → Nat → Int32) (J : Nat → Nat → Int64) (t : Bool × Bool) (x1 : Int32) (x2 : Int32) (x3 : Int32) (x4 : Int32) (x5 : Int32) (x6 : Int32) (hb : pb_X12_yieldsTo_68 n I A J t x1 x2 x3 x4 x5 x6) : Cd g mX12_yieldsTo [(.ref (cw_z g + 68)), (.int x1), (.int x2), (.int x3), (.int x4), (.int x5), (.int x6)] (hp g I A J t) (some (.int (px_X12_yieldsTo_68 n I A J t x1 x2 x3 x4 x5 x6))) (hp g (pI_X12_yieldsTo_68 n I A J t x1 x2 x3 x4 x5 x6) (pA_X12_yieldsTo_68 n I A J t x1 x2 x3 x4 x5 x6) J t) := by
  unfold pb_X12_yieldsTo_68 at hb
  unfold px_X12_yieldsTo_68 pI_X12_yieldsTo_68 pA_X12_yieldsTo_68
  refine Cd.of rfl (Nat.le_of_ble_eq_true rfl) (ev_gen (fun Q hQ => ?_))
  refine ev_iconst (pc := 0) (v := 0) dX12_yieldsTo_0 (by decide) ?_
  refine ev_istore_7 (pc := 1) dX12_yieldsTo_1 (by decide) rfl ?_
  exact ev_mono (ev_loc (lt_X12_yieldsTo_68_3 g n I A J t x1 x2 x3 x4 x5 x6 n I A 0 hb) cw_le0) hQ

def qIm20_X12_yields_68 (n : Nat) (I : Nat → Nat → Int32) (A : Nat → Nat → Int32) (J : Nat → Nat → Int64) (t : Bool × Bool) (x1 : Int32) (x2 : Int32) (x3 : Int32) (x4 : Int32) (x5 : Int32) (x6 : Int32) : Nat → Nat → Int32 := if (px_X12_isKnown_68 n I A J t x6) = 0 then I else (pI_X12_yieldsTo_68 n I A J t x1 x2 x3 x4 x5 x6)
def qAm20_X12_yields_68 (n : Nat) (I : Nat → Nat → Int32) (A : Nat → Nat → Int32) (J : Nat → Nat → Int64) (t : Bool × Bool) (x1 : Int32) (x2 : Int32) (x3 : Int32) (x4 : Int32) (x5 : Int32) (x6 : Int32) : Nat → Nat → Int32 := if (px_X12_isKnown_68 n I A J t x6) = 0 then A else (pA_X12_yieldsTo_68 n I A J t x1 x2 x3 x4 x5 x6)
def qs0m20_X12_yields_68 (n : Nat) (I : Nat → Nat → Int32) (A : Nat → Nat → Int32) (J : Nat → Nat → Int64) (t : Bool × Bool) (x1 : Int32) (x2 : Int32) (x3 : Int32) (x4 : Int32) (x5 : Int32) (x6 : Int32) : Int32 := if (px_X12_isKnown_68 n I A J t x6) = 0 then (-1) else (px_X12_yieldsTo_68 n I A J t x1 x2 x3 x4 x5 x6)
def qIm11_X12_yields_68 (n : Nat) (I : Nat → Nat → Int32) (A : Nat → Nat → Int32) (J : Nat → Nat → Int64) (t : Bool × Bool) (x1 : Int32) (x2 : Int32) (x3 : Int32) (x4 : Int32) (x5 : Int32) (x6 : Int32) : Nat → Nat → Int32 := if (px_X12_isAsked_68 n I A J t x1 x2 x3 x4 x5) = 0 then I else (qIm20_X12_yields_68 n I A J t x1 x2 x3 x4 x5 x6)
def qAm11_X12_yields_68 (n : Nat) (I : Nat → Nat → Int32) (A : Nat → Nat → Int32) (J : Nat → Nat → Int64) (t : Bool × Bool) (x1 : Int32) (x2 : Int32) (x3 : Int32) (x4 : Int32) (x5 : Int32) (x6 : Int32) : Nat → Nat → Int32 := if (px_X12_isAsked_68 n I A J t x1 x2 x3 x4 x5) = 0 then A else (qAm20_X12_yields_68 n I A J t x1 x2 x3 x4 x5 x6)
def qs0m11_X12_yields_68 (n : Nat) (I : Nat → Nat → Int32) (A : Nat → Nat → Int32) (J : Nat → Nat → Int64) (t : Bool × Bool) (x1 : Int32) (x2 : Int32) (x3 : Int32) (x4 : Int32) (x5 : Int32) (x6 : Int32) : Int32 := if (px_X12_isAsked_68 n I A J t x1 x2 x3 x4 x5) = 0 then (-1) else (qs0m20_X12_yields_68 n I A J t x1 x2 x3 x4 x5 x6)
def pb_X12_yields_68 (n : Nat) (I : Nat → Nat → Int32) (A : Nat → Nat → Int32) (J : Nat → Nat → Int64) (t : Bool × Bool) (x1 : Int32) (x2 : Int32) (x3 : Int32) (x4 : Int32) (x5 : Int32) (x6 : Int32) : Prop := (¬ (px_X12_isAsked_68 n I A J t x1 x2 x3 x4 x5) = 0 → (¬ (px_X12_isKnown_68 n I A J t x6) = 0 → pb_X12_yieldsTo_68 n I A J t x1 x2 x3 x4 x5 x6))
def px_X12_yields_68 (n : Nat) (I : Nat → Nat → Int32) (A : Nat → Nat → Int32) (J : Nat → Nat → Int64) (t : Bool × Bool) (x1 : Int32) (x2 : Int32) (x3 : Int32) (x4 : Int32) (x5 : Int32) (x6 : Int32) : Int32 := (qs0m11_X12_yields_68 n I A J t x1 x2 x3 x4 x5 x6)
def pI_X12_yields_68 (n : Nat) (I : Nat → Nat → Int32) (A : Nat → Nat → Int32) (J : Nat → Nat → Int64) (t : Bool × Bool) (x1 : Int32) (x2 : Int32) (x3 : Int32) (x4 : Int32) (x5 : Int32) (x6 : Int32) : Nat → Nat → Int32 := (qIm11_X12_yields_68 n I A J t x1 x2 x3 x4 x5 x6)
def pA_X12_yields_68 (n : Nat) (I : Nat → Nat → Int32) (A : Nat → Nat → Int32) (J : Nat → Nat → Int64) (t : Bool × Bool) (x1 : Int32) (x2 : Int32) (x3 : Int32) (x4 : Int32) (x5 : Int32) (x6 : Int32) : Nat → Nat → Int32 := (qAm11_X12_yields_68 n I A J t x1 x2 x3 x4 x5 x6)
set_option maxRecDepth 100000 in
set_option maxHeartbeats 4000000 in
theorem cv_X12_yields_68 (g : cw_G) (n : Nat) (I : Nat → Nat → Int32) (A : Nat → Nat → Int32) (J : Nat → Nat → Int64) (t : Bool × Bool) (x1 : Int32) (x2 : Int32) (x3 : Int32) (x4 : Int32) (x5 : Int32) (x6 : Int32) (hb : pb_X12_yields_68 n I A J t x1 x2 x3 x4 x5 x6) : Cd g mX12_yields [(.ref (cw_z g + 68)), (.int x1), (.int x2), (.int x3), (.int x4), (.int x5), (.int x6)] (hp g I A J t) (some (.int (px_X12_yields_68 n I A J t x1 x2 x3 x4 x5 x6))) (hp g (pI_X12_yields_68 n I A J t x1 x2 x3 x4 x5 x6) (pA_X12_yields_68 n I A J t x1 x2 x3 x4 x5 x6) J t) := by
  unfold pb_X12_yields_68 at hb
  unfold px_X12_yields_68 pI_X12_yields_68 pA_X12_yields_68
  refine Cd.of rfl (Nat.le_of_ble_eq_true rfl) (ev_gen (fun Q hQ => ?_))
  refine ev_aload_n (pc := 0) dX12_yields_0 rfl ?_
  refine ev_iload_n (pc := 1) dX12_yields_1 rfl ?_
  refine ev_iload_n (pc := 2) dX12_yields_2 rfl ?_
  refine ev_iload_n (pc := 3) dX12_yields_3 rfl ?_
  refine ev_iload (pc := 4) dX12_yields_4 rfl ?_
  refine ev_iload (pc := 6) dX12_yields_6 rfl ?_
  refine ev_Vi (pc := 8) dX12_yields_8 lk_X12_344 cd_X12_isAsked ar_X12_isAsked ⟨by decide, rfl, rfl⟩ (cv_X12_isAsked_68 g n I A J t x1 x2 x3 x4 x5) (show 68 < 120 by decide) rfl rfl rfl rfl (Nat.le_of_ble_eq_true rfl) ⟨by decide, by decide⟩ ?_
  have hF_11 := hb
  refine ev_cut (pj := 40) (Lj := [some (.ref (cw_z g + 68)), some (.int x1), some (.int x2), some (.int x3), some (.int x4), some (.int x5), some (.int x6)]) (stj := [(.int (qs0m11_X12_yields_68 n I A J t x1 x2 x3 x4 x5 x6))]) (σj := hp g (qIm11_X12_yields_68 n I A J t x1 x2 x3 x4 x5 x6) (qAm11_X12_yields_68 n I A J t x1 x2 x3 x4 x5 x6) J t) ?_ (fun hJ_11 => ?_)
  rotate_left
  · refine ev_if_eq (pc := 11) (tgt := 39) dX12_yields_11 (by decide) (fun c_11 => ?_) (fun c_11 => ?_)
    · refine ev_iconst (pc := 39) (v := (-1)) dX12_yields_39 (by decide) ?_
      simp only [qIm11_X12_yields_68, qAm11_X12_yields_68, qs0m11_X12_yields_68, if_pos c_11] at hJ_11
      exact ev_loc hJ_11 cw_le0
    · have hb := hF_11 c_11
      refine ev_aload_n (pc := 14) dX12_yields_14 rfl ?_
      refine ev_iload (pc := 15) dX12_yields_15 rfl ?_
      refine ev_Vi (pc := 17) dX12_yields_17 lk_X12_337 cd_X12_isKnown ar_X12_isKnown ⟨by decide, rfl, rfl⟩ (cv_X12_isKnown_68 g n I A J t x6) (show 68 < 120 by decide) rfl rfl rfl rfl (Nat.le_of_ble_eq_true rfl) ⟨by decide, by decide⟩ ?_
      have hF_20 := hb
      refine ev_cut (pj := 40) (Lj := [some (.ref (cw_z g + 68)), some (.int x1), some (.int x2), some (.int x3), some (.int x4), some (.int x5), some (.int x6)]) (stj := [(.int (qs0m20_X12_yields_68 n I A J t x1 x2 x3 x4 x5 x6))]) (σj := hp g (qIm20_X12_yields_68 n I A J t x1 x2 x3 x4 x5 x6) (qAm20_X12_yields_68 n I A J t x1 x2 x3 x4 x5 x6) J t) ?_ (fun hJ_20 => ?_)
      rotate_left
      · refine ev_if_eq (pc := 20) (tgt := 39) dX12_yields_20 (by decide) (fun c_20 => ?_) (fun c_20 => ?_)
        · refine ev_iconst (pc := 39) (v := (-1)) dX12_yields_39 (by decide) ?_
          simp only [qIm20_X12_yields_68, qAm20_X12_yields_68, qs0m20_X12_yields_68, if_pos c_20] at hJ_20
          exact ev_loc hJ_20 cw_le0
        · have hb := hF_20 c_20
          refine ev_aload_n (pc := 23) dX12_yields_23 rfl ?_
          refine ev_iload_n (pc := 24) dX12_yields_24 rfl ?_
          refine ev_iload_n (pc := 25) dX12_yields_25 rfl ?_
          refine ev_iload_n (pc := 26) dX12_yields_26 rfl ?_
          refine ev_iload (pc := 27) dX12_yields_27 rfl ?_
          refine ev_iload (pc := 29) dX12_yields_29 rfl ?_
          refine ev_iload (pc := 31) dX12_yields_31 rfl ?_
          refine ev_Vi (pc := 33) dX12_yields_33 lk_X12_365 cd_X12_yieldsTo ar_X12_yieldsTo ⟨by decide, rfl, rfl⟩ (cv_X12_yieldsTo_68 g n I A J t x1 x2 x3 x4 x5 x6 hb) (show 68 < 120 by decide) rfl rfl rfl rfl (Nat.le_of_ble_eq_true rfl) ⟨by decide, by decide⟩ ?_
          refine ev_goto (pc := 36) (tgt := 40) dX12_yields_36 (by decide) ?_
          simp only [qIm20_X12_yields_68, qAm20_X12_yields_68, qs0m20_X12_yields_68, if_neg c_20] at hJ_20
          exact ev_loc hJ_20 cw_le0
      simp only [qIm11_X12_yields_68, qAm11_X12_yields_68, qs0m11_X12_yields_68, if_neg c_11] at hJ_11
      exact ev_loc hJ_11 cw_le0
  exact ev_iret (pc := 40) dX12_yields_40 rfl (by decide) (by decide) (hQ _ _ ⟨rfl, rfl⟩)

def pb_X12_rule_68 (n : Nat) (I : Nat → Nat → Int32) (A : Nat → Nat → Int32) (J : Nat → Nat → Int64) (t : Bool × Bool) (x1 : Int32) (x2 : Int32) (x3 : Int32) (x4 : Int32) (x5 : Int32) (x6 : Int32) : Prop := (¬ (px_X12_isAsked_68 n I A J t x1 x2 x3 x4 x5) = 0 → (¬ x6 < 0 → (¬ (I 68 50) ≤ x6 → pb_X12_clashes_68 n I A J t x2 x3 x4 x5 x6 ∧ (¬ (px_X12_clashes_68 n I A J t x2 x3 x4 x5 x6) = 0 → pb_X12_decides_68 n (pI_X12_clashes_68 n I A J t x2 x3 x4 x5 x6) A J t x1 x2 x3 x4 x5 x6))))
def px_X12_rule_68 (n : Nat) (I : Nat → Nat → Int32) (A : Nat → Nat → Int32) (J : Nat → Nat → Int64) (t : Bool × Bool) (x1 : Int32) (x2 : Int32) (x3 : Int32) (x4 : Int32) (x5 : Int32) (x6 : Int32) : Int32 := (if (px_X12_isAsked_68 n I A J t x1 x2 x3 x4 x5) = 0 then (-1) else (if x6 < 0 then (-1) else (if (I 68 50) ≤ x6 then (-1) else (if (px_X12_clashes_68 n I A J t x2 x3 x4 x5 x6) = 0 then (-1) else (px_X12_decides_68 n (pI_X12_clashes_68 n I A J t x2 x3 x4 x5 x6) A J t x1 x2 x3 x4 x5 x6)))))
def pI_X12_rule_68 (n : Nat) (I : Nat → Nat → Int32) (A : Nat → Nat → Int32) (J : Nat → Nat → Int64) (t : Bool × Bool) (x1 : Int32) (x2 : Int32) (x3 : Int32) (x4 : Int32) (x5 : Int32) (x6 : Int32) : Nat → Nat → Int32 := (if (px_X12_isAsked_68 n I A J t x1 x2 x3 x4 x5) = 0 then I else (if x6 < 0 then I else (if (I 68 50) ≤ x6 then I else (pI_X12_clashes_68 n I A J t x2 x3 x4 x5 x6))))
def pA_X12_rule_68 (n : Nat) (I : Nat → Nat → Int32) (A : Nat → Nat → Int32) (J : Nat → Nat → Int64) (t : Bool × Bool) (x1 : Int32) (x2 : Int32) (x3 : Int32) (x4 : Int32) (x5 : Int32) (x6 : Int32) : Nat → Nat → Int32 := (if (px_X12_isAsked_68 n I A J t x1 x2 x3 x4 x5) = 0 then A else (if x6 < 0 then A else (if (I 68 50) ≤ x6 then A else (if (px_X12_clashes_68 n I A J t x2 x3 x4 x5 x6) = 0 then A else (pA_X12_decides_68 n (pI_X12_clashes_68 n I A J t x2 x3 x4 x5 x6) A J t x1 x2 x3 x4 x5 x6)))))
set_option maxRecDepth 100000 in
set_option maxHeartbeats 4000000 in
theorem cv_X12_rule_68 (g : cw_G) (n : Nat) (I : Nat → Nat → Int32) (A : Nat → Nat → Int32) (J : Nat → Nat → Int64) (t : Bool × Bool) (x1 : Int32) (x2 : Int32) (x3 : Int32) (x4 : Int32) (x5 : Int32) (x6 : Int32) (hb : pb_X12_rule_68 n I A J t x1 x2 x3 x4 x5 x6) : Cd g mX12_rule [(.ref (cw_z g + 68)), (.int x1), (.int x2), (.int x3), (.int x4), (.int x5), (.int x6)] (hp g I A J t) (some (.int (px_X12_rule_68 n I A J t x1 x2 x3 x4 x5 x6))) (hp g (pI_X12_rule_68 n I A J t x1 x2 x3 x4 x5 x6) (pA_X12_rule_68 n I A J t x1 x2 x3 x4 x5 x6) J t) := by
  unfold pb_X12_rule_68 at hb
  unfold px_X12_rule_68 pI_X12_rule_68 pA_X12_rule_68
  refine Cd.of rfl (Nat.le_of_ble_eq_true rfl) (ev_gen (fun Q hQ => ?_))
  refine ev_aload_n (pc := 0) dX12_rule_0 rfl ?_
  refine ev_iload_n (pc := 1) dX12_rule_1 rfl ?_
  refine ev_iload_n (pc := 2) dX12_rule_2 rfl ?_
  refine ev_iload_n (pc := 3) dX12_rule_3 rfl ?_
  refine ev_iload (pc := 4) dX12_rule_4 rfl ?_
  refine ev_iload (pc := 6) dX12_rule_6 rfl ?_
  refine ev_Vi (pc := 8) dX12_rule_8 lk_X12_344 cd_X12_isAsked ar_X12_isAsked ⟨by decide, rfl, rfl⟩ (cv_X12_isAsked_68 g n I A J t x1 x2 x3 x4 x5) (show 68 < 120 by decide) rfl rfl rfl rfl (Nat.le_of_ble_eq_true rfl) ⟨by decide, by decide⟩ ?_
  have hF_11 := hb
  refine ev_if_eq (pc := 11) (tgt := 43) dX12_rule_11 (by decide) (fun c_11 => ?_) (fun c_11 => ?_)
  · try simp only [if_pos c_11] at hQ
    refine ev_iconst (pc := 43) (v := (-1)) dX12_rule_43 (by decide) ?_
    exact ev_iret (pc := 44) dX12_rule_44 rfl (by decide) (by decide) (hQ _ _ ⟨rfl, rfl⟩)
  · have hb := hF_11 c_11
    try simp only [if_neg c_11] at hQ
    refine ev_iload (pc := 14) dX12_rule_14 rfl ?_
    have hF_16 := hb
    refine ev_if_lt (pc := 16) (tgt := 43) dX12_rule_16 (by decide) (fun c_16 => ?_) (fun c_16 => ?_)
    · try simp only [if_pos c_16] at hQ
      refine ev_iconst (pc := 43) (v := (-1)) dX12_rule_43 (by decide) ?_
      exact ev_iret (pc := 44) dX12_rule_44 rfl (by decide) (by decide) (hQ _ _ ⟨rfl, rfl⟩)
    · have hb := hF_16 c_16
      try simp only [if_neg c_16] at hQ
      refine ev_iload (pc := 19) dX12_rule_19 rfl ?_
      refine ev_aload_n (pc := 21) dX12_rule_21 rfl ?_
      refine tv_geti (pc := 22) dX12_rule_22 fl_X12_286 (by decide) rfl rfl ?_
      have hF_25 := hb
      refine ev_icmp_ge (pc := 25) (tgt := 43) dX12_rule_25 (by decide) (fun c_25 => ?_) (fun c_25 => ?_)
      · try simp only [if_pos c_25] at hQ
        refine ev_iconst (pc := 43) (v := (-1)) dX12_rule_43 (by decide) ?_
        exact ev_iret (pc := 44) dX12_rule_44 rfl (by decide) (by decide) (hQ _ _ ⟨rfl, rfl⟩)
      · have hb := hF_25 c_25
        try simp only [if_neg c_25] at hQ
        refine ev_aload_n (pc := 28) dX12_rule_28 rfl ?_
        refine ev_iload_n (pc := 29) dX12_rule_29 rfl ?_
        refine ev_iload_n (pc := 30) dX12_rule_30 rfl ?_
        refine ev_iload (pc := 31) dX12_rule_31 rfl ?_
        refine ev_iload (pc := 33) dX12_rule_33 rfl ?_
        refine ev_iload (pc := 35) dX12_rule_35 rfl ?_
        refine ev_Vi (pc := 37) dX12_rule_37 lk_X12_359 cd_X12_clashes ar_X12_clashes ⟨by decide, rfl, rfl⟩ (cv_X12_clashes_68 g n I A J t x2 x3 x4 x5 x6 hb.1) (show 68 < 120 by decide) rfl rfl rfl rfl (Nat.le_of_ble_eq_true rfl) ⟨by decide, by decide⟩ ?_
        replace hb := hb.2
        have hT_40 := hb
        refine ev_if_ne (pc := 40) (tgt := 45) dX12_rule_40 (by decide) (fun c_40 => ?_) (fun c_40 => ?_)
        · have hb := hT_40 c_40
          try simp only [if_neg c_40] at hQ
          refine ev_aload_n (pc := 45) dX12_rule_45 rfl ?_
          refine ev_iload_n (pc := 46) dX12_rule_46 rfl ?_
          refine ev_iload_n (pc := 47) dX12_rule_47 rfl ?_
          refine ev_iload_n (pc := 48) dX12_rule_48 rfl ?_
          refine ev_iload (pc := 49) dX12_rule_49 rfl ?_
          refine ev_iload (pc := 51) dX12_rule_51 rfl ?_
          refine ev_iload (pc := 53) dX12_rule_53 rfl ?_
          refine ev_Vi (pc := 55) dX12_rule_55 lk_X12_362 cd_X12_decides ar_X12_decides ⟨by decide, rfl, rfl⟩ (cv_X12_decides_68 g n (pI_X12_clashes_68 n I A J t x2 x3 x4 x5 x6) A J t x1 x2 x3 x4 x5 x6 hb) (show 68 < 120 by decide) rfl rfl rfl rfl (Nat.le_of_ble_eq_true rfl) ⟨by decide, by decide⟩ ?_
          exact ev_iret (pc := 58) dX12_rule_58 rfl (by decide) (by decide) (hQ _ _ ⟨rfl, rfl⟩)
        · try simp only [if_pos c_40] at hQ
          refine ev_iconst (pc := 43) (v := (-1)) dX12_rule_43 (by decide) ?_
          exact ev_iret (pc := 44) dX12_rule_44 rfl (by decide) (by decide) (hQ _ _ ⟨rfl, rfl⟩)
