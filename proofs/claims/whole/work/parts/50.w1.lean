def qA29_X11_append_0 (n : Nat) (I : Nat → Nat → Int32) (A : Nat → Nat → Int32) (J : Nat → Nat → Int64) (t : Bool × Bool) (x1 : Int32) (I3 : Nat → Nat → Int32) (A3 : Nat → Nat → Int32) (v3_2 : Int32) : Nat → Nat → Int32 := cw_u A3 32 ((I3 0 13)).toNatClampNeg (((x1 >>> (v3_2 &&& 31))).toInt8.toInt32).toInt8.toInt32
def qI37_X11_append_0 (n : Nat) (I : Nat → Nat → Int32) (A : Nat → Nat → Int32) (J : Nat → Nat → Int64) (t : Bool × Bool) (x1 : Int32) (I3 : Nat → Nat → Int32) (A3 : Nat → Nat → Int32) (v3_2 : Int32) : Nat → Nat → Int32 := cw_u I3 0 13 ((I3 0 13) + 1)
def q40_X11_append_0 (n : Nat) (I : Nat → Nat → Int32) (A : Nat → Nat → Int32) (J : Nat → Nat → Int64) (t : Bool × Bool) (x1 : Int32) (I3 : Nat → Nat → Int32) (A3 : Nat → Nat → Int32) (v3_2 : Int32) : Int32 := v3_2 + (-8)
def lp_X11_append_0_3 (n : Nat) (I : Nat → Nat → Int32) (A : Nat → Nat → Int32) (J : Nat → Nat → Int64) (t : Bool × Bool) (x1 : Int32) : Nat → (Nat → Nat → Int32) → (Nat → Nat → Int32) → (Int32) → (Nat → Nat → Int32) × (Nat → Nat → Int32) × Int32
  | 0, I3, A3, v3_2 => (I3, A3, v3_2)
  | f + 1, I3, A3, v3_2 => if v3_2 < 0 then (I3, A3, v3_2) else if 2000 ≤ (I3 0 13) then (I3, A3, v3_2) else lp_X11_append_0_3 n I A J t x1 f (qI37_X11_append_0 n I A J t x1 I3 A3 v3_2) (qA29_X11_append_0 n I A J t x1 I3 A3 v3_2) (q40_X11_append_0 n I A J t x1 I3 A3 v3_2)
def lb_X11_append_0_3 (n : Nat) (I : Nat → Nat → Int32) (A : Nat → Nat → Int32) (J : Nat → Nat → Int64) (t : Bool × Bool) (x1 : Int32) : Nat → (Nat → Nat → Int32) → (Nat → Nat → Int32) → (Int32) → Prop
  | 0, _, _, _ => False
  | f + 1, I3, A3, v3_2 => (¬ v3_2 < 0 → (¬ 2000 ≤ (I3 0 13) → vp_in (I3 0 13) 2000 ∧ lb_X11_append_0_3 n I A J t x1 f (qI37_X11_append_0 n I A J t x1 I3 A3 v3_2) (qA29_X11_append_0 n I A J t x1 I3 A3 v3_2) (q40_X11_append_0 n I A J t x1 I3 A3 v3_2)))
def qIw3_X11_append_0 (n : Nat) (I : Nat → Nat → Int32) (A : Nat → Nat → Int32) (J : Nat → Nat → Int64) (t : Bool × Bool) (x1 : Int32) : Nat → Nat → Int32 := (lp_X11_append_0_3 n I A J t x1 n I A 24).1
def qAw3_X11_append_0 (n : Nat) (I : Nat → Nat → Int32) (A : Nat → Nat → Int32) (J : Nat → Nat → Int64) (t : Bool × Bool) (x1 : Int32) : Nat → Nat → Int32 := (lp_X11_append_0_3 n I A J t x1 n I A 24).2.1
def q2w3_X11_append_0 (n : Nat) (I : Nat → Nat → Int32) (A : Nat → Nat → Int32) (J : Nat → Nat → Int64) (t : Bool × Bool) (x1 : Int32) : Int32 := (lp_X11_append_0_3 n I A J t x1 n I A 24).2.2
def pb_X11_append_0 (n : Nat) (I : Nat → Nat → Int32) (A : Nat → Nat → Int32) (J : Nat → Nat → Int64) (t : Bool × Bool) (x1 : Int32) : Prop := lb_X11_append_0_3 n I A J t x1 n I A 24
def pI_X11_append_0 (n : Nat) (I : Nat → Nat → Int32) (A : Nat → Nat → Int32) (J : Nat → Nat → Int64) (t : Bool × Bool) (x1 : Int32) : Nat → Nat → Int32 := (qIw3_X11_append_0 n I A J t x1)
def pA_X11_append_0 (n : Nat) (I : Nat → Nat → Int32) (A : Nat → Nat → Int32) (J : Nat → Nat → Int64) (t : Bool × Bool) (x1 : Int32) : Nat → Nat → Int32 := (qAw3_X11_append_0 n I A J t x1)
set_option maxRecDepth 100000 in
set_option maxHeartbeats 4000000 in
theorem lt_X11_append_0_3 (g : cw_G) (n : Nat) (I : Nat → Nat → Int32) (A : Nat → Nat → Int32) (J : Nat → Nat → Int64) (t : Bool × Bool) (x1 : Int32) {Q : Option Value → cw_H → Prop} : ∀ (f : Nat) (I3 : Nat → Nat → Int32) (A3 : Nat → Nat → Int32) (v3_2 : Int32) (w0 : Nat → Nat → Int32) (w1 : Nat → Nat → Int32) (w2 : Int32), lb_X11_append_0_3 n I A J t x1 f I3 A3 v3_2 → (lp_X11_append_0_3 n I A J t x1 f I3 A3 v3_2).1 = w0 → (lp_X11_append_0_3 n I A J t x1 f I3 A3 v3_2).2.1 = w1 → (lp_X11_append_0_3 n I A J t x1 f I3 A3 v3_2).2.2 = w2 → Ev g mX11_append 0 0 46 [some (.ref (cw_z g + 0)), some (.int x1), some (.int w2)] [] (hp g w0 w1 J t) Q → Ev g mX11_append 0 0 3 [some (.ref (cw_z g + 0)), some (.int x1), some (.int v3_2)] [] (hp g I3 A3 J t) Q := by
  intro f
  induction f with
  | zero =>
    intro I3 A3 v3_2 w0 w1 w2 hb
    exact hb.elim
  | succ f ih =>
    intro I3 A3 v3_2 w0 w1 w2 hb h0 h1 h2 hE
    rw [lb_X11_append_0_3] at hb
    rw [lp_X11_append_0_3] at h0 h1 h2
    refine ev_iload_n (pc := 3) dX11_append_3 rfl ?_
    have hF_4 := hb
    refine ev_if_lt (pc := 4) (tgt := 46) dX11_append_4 (by decide) (fun c_4 => ?_) (fun c_4 => ?_)
    · try simp only [if_pos c_4] at h0
      try simp only [if_pos c_4] at h1
      try simp only [if_pos c_4] at h2
      subst h0
      subst h1
      subst h2
      exact ev_loc hE cw_le0
    · have hb := hF_4 c_4
      try simp only [if_neg c_4] at h0
      try simp only [if_neg c_4] at h1
      try simp only [if_neg c_4] at h2
      refine ev_aload_n (pc := 7) dX11_append_7 rfl ?_
      refine tv_geti (pc := 8) dX11_append_8 fl_X11_92 (by decide) rfl rfl ?_
      refine ev_sipush (pc := 11) (v := 2000) dX11_append_11 (by decide) ?_
      have hF_14 := hb
      refine ev_icmp_ge (pc := 14) (tgt := 46) dX11_append_14 (by decide) (fun c_14 => ?_) (fun c_14 => ?_)
      · try simp only [if_pos c_14] at h0
        try simp only [if_pos c_14] at h1
        try simp only [if_pos c_14] at h2
        subst h0
        subst h1
        subst h2
        exact ev_loc hE cw_le0
      · have hb := hF_14 c_14
        try simp only [if_neg c_14] at h0
        try simp only [if_neg c_14] at h1
        try simp only [if_neg c_14] at h2
        refine ev_aload_n (pc := 17) dX11_append_17 rfl ?_
        refine tv_getr (pc := 18) (d := 32) dX11_append_18 fl_X11_56 (by decide) rfl rfl ?_
        refine ev_aload_n (pc := 21) dX11_append_21 rfl ?_
        refine tv_geti (pc := 22) dX11_append_22 fl_X11_92 (by decide) rfl rfl ?_
        refine ev_iload_n (pc := 25) dX11_append_25 rfl ?_
        refine ev_iload_n (pc := 26) dX11_append_26 rfl ?_
        refine ev_ishr (pc := 27) dX11_append_27 ?_
        refine ev_i2b (pc := 28) dX11_append_28 ?_
        refine tw_bast (pc := 29) (A2 := (qA29_X11_append_0 n I A J t x1 I3 A3 v3_2)) dX11_append_29 (by decide) rfl hb.1 rfl ?_
        replace hb := hb.2
        refine ev_aload_n (pc := 30) dX11_append_30 rfl ?_
        refine ev_dup (pc := 31) dX11_append_31 rfl ?_
        refine tv_geti (pc := 32) dX11_append_32 fl_X11_92 (by decide) rfl rfl ?_
        refine ev_iconst (pc := 35) (v := 1) dX11_append_35 (by decide) ?_
        refine ev_iadd (pc := 36) dX11_append_36 ?_
        refine tw_puti (pc := 37) (I2 := (qI37_X11_append_0 n I A J t x1 I3 A3 v3_2)) dX11_append_37 fp_X11_92 (by decide) rfl rfl rfl ?_
        refine ev_iinc_2 (pc := 40) (v := (q40_X11_append_0 n I A J t x1 I3 A3 v3_2)) dX11_append_40 (by decide) rfl rfl ?_
        refine ev_goto (pc := 43) (tgt := 3) dX11_append_43 (by decide) ?_
        exact ev_loc (ih (qI37_X11_append_0 n I A J t x1 I3 A3 v3_2) (qA29_X11_append_0 n I A J t x1 I3 A3 v3_2) (q40_X11_append_0 n I A J t x1 I3 A3 v3_2) w0 w1 w2 hb h0 h1 h2 hE) cw_le0

set_option maxRecDepth 100000 in
set_option maxHeartbeats 4000000 in
theorem cv_X11_append_0 (g : cw_G) (n : Nat) (I : Nat → Nat → Int32) (A : Nat → Nat → Int32) (J : Nat → Nat → Int64) (t : Bool × Bool) (x1 : Int32) (hb : pb_X11_append_0 n I A J t x1) : Cd g mX11_append [(.ref (cw_z g + 0)), (.int x1)] (hp g I A J t) none (hp g (pI_X11_append_0 n I A J t x1) (pA_X11_append_0 n I A J t x1) J t) := by
  unfold pb_X11_append_0 at hb
  unfold pI_X11_append_0 pA_X11_append_0
  refine Cd.of rfl (Nat.le_of_ble_eq_true rfl) (ev_gen (fun Q hQ => ?_))
  refine ev_bipush (pc := 0) (v := 24) dX11_append_0 (by decide) ?_
  refine ev_istore_2 (pc := 2) dX11_append_2 (by decide) rfl ?_
  refine lt_X11_append_0_3 g n I A J t x1 n I A 24 (qIw3_X11_append_0 n I A J t x1) (qAw3_X11_append_0 n I A J t x1) (q2w3_X11_append_0 n I A J t x1) hb rfl rfl rfl ?_
  exact ev_vret (pc := 46) dX11_append_46 rfl (by decide) (by decide) (hQ _ _ ⟨rfl, rfl⟩)

def pb_X11_feed_0 (n : Nat) (I : Nat → Nat → Int32) (A : Nat → Nat → Int32) (J : Nat → Nat → Int64) (t : Bool × Bool) (x1 : Int32) (x2 : Int32) (x3 : Int32) (x4 : Int32) (x5 : Int32) : Prop := ((I 0 13) ≤ 1980 → pb_X11_append_0 n I A J t x1 ∧ pb_X11_append_0 n (pI_X11_append_0 n I A J t x1) (pA_X11_append_0 n I A J t x1) J t x2 ∧ pb_X11_append_0 n (pI_X11_append_0 n (pI_X11_append_0 n I A J t x1) (pA_X11_append_0 n I A J t x1) J t x2) (pA_X11_append_0 n (pI_X11_append_0 n I A J t x1) (pA_X11_append_0 n I A J t x1) J t x2) J t x3 ∧ pb_X11_append_0 n (pI_X11_append_0 n (pI_X11_append_0 n (pI_X11_append_0 n I A J t x1) (pA_X11_append_0 n I A J t x1) J t x2) (pA_X11_append_0 n (pI_X11_append_0 n I A J t x1) (pA_X11_append_0 n I A J t x1) J t x2) J t x3) (pA_X11_append_0 n (pI_X11_append_0 n (pI_X11_append_0 n I A J t x1) (pA_X11_append_0 n I A J t x1) J t x2) (pA_X11_append_0 n (pI_X11_append_0 n I A J t x1) (pA_X11_append_0 n I A J t x1) J t x2) J t x3) J t x4 ∧ pb_X11_append_0 n (pI_X11_append_0 n (pI_X11_append_0 n (pI_X11_append_0 n (pI_X11_append_0 n I A J t x1) (pA_X11_append_0 n I A J t x1) J t x2) (pA_X11_append_0 n (pI_X11_append_0 n I A J t x1) (pA_X11_append_0 n I A J t x1) J t x2) J t x3) (pA_X11_append_0 n (pI_X11_append_0 n (pI_X11_append_0 n I A J t x1) (pA_X11_append_0 n I A J t x1) J t x2) (pA_X11_append_0 n (pI_X11_append_0 n I A J t x1) (pA_X11_append_0 n I A J t x1) J t x2) J t x3) J t x4) (pA_X11_append_0 n (pI_X11_append_0 n (pI_X11_append_0 n (pI_X11_append_0 n I A J t x1) (pA_X11_append_0 n I A J t x1) J t x2) (pA_X11_append_0 n (pI_X11_append_0 n I A J t x1) (pA_X11_append_0 n I A J t x1) J t x2) J t x3) (pA_X11_append_0 n (pI_X11_append_0 n (pI_X11_append_0 n I A J t x1) (pA_X11_append_0 n I A J t x1) J t x2) (pA_X11_append_0 n (pI_X11_append_0 n I A J t x1) (pA_X11_append_0 n I A J t x1) J t x2) J t x3) J t x4) J t x5)
def px_X11_feed_0 (n : Nat) (I : Nat → Nat → Int32) (A : Nat → Nat → Int32) (J : Nat → Nat → Int64) (t : Bool × Bool) (x1 : Int32) (x2 : Int32) (x3 : Int32) (x4 : Int32) (x5 : Int32) : Int32 := (if (I 0 13) ≤ 1980 then ((pI_X11_append_0 n (pI_X11_append_0 n (pI_X11_append_0 n (pI_X11_append_0 n (pI_X11_append_0 n I A J t x1) (pA_X11_append_0 n I A J t x1) J t x2) (pA_X11_append_0 n (pI_X11_append_0 n I A J t x1) (pA_X11_append_0 n I A J t x1) J t x2) J t x3) (pA_X11_append_0 n (pI_X11_append_0 n (pI_X11_append_0 n I A J t x1) (pA_X11_append_0 n I A J t x1) J t x2) (pA_X11_append_0 n (pI_X11_append_0 n I A J t x1) (pA_X11_append_0 n I A J t x1) J t x2) J t x3) J t x4) (pA_X11_append_0 n (pI_X11_append_0 n (pI_X11_append_0 n (pI_X11_append_0 n I A J t x1) (pA_X11_append_0 n I A J t x1) J t x2) (pA_X11_append_0 n (pI_X11_append_0 n I A J t x1) (pA_X11_append_0 n I A J t x1) J t x2) J t x3) (pA_X11_append_0 n (pI_X11_append_0 n (pI_X11_append_0 n I A J t x1) (pA_X11_append_0 n I A J t x1) J t x2) (pA_X11_append_0 n (pI_X11_append_0 n I A J t x1) (pA_X11_append_0 n I A J t x1) J t x2) J t x3) J t x4) J t x5) 0 13) else (-1))
def pI_X11_feed_0 (n : Nat) (I : Nat → Nat → Int32) (A : Nat → Nat → Int32) (J : Nat → Nat → Int64) (t : Bool × Bool) (x1 : Int32) (x2 : Int32) (x3 : Int32) (x4 : Int32) (x5 : Int32) : Nat → Nat → Int32 := (if (I 0 13) ≤ 1980 then (pI_X11_append_0 n (pI_X11_append_0 n (pI_X11_append_0 n (pI_X11_append_0 n (pI_X11_append_0 n I A J t x1) (pA_X11_append_0 n I A J t x1) J t x2) (pA_X11_append_0 n (pI_X11_append_0 n I A J t x1) (pA_X11_append_0 n I A J t x1) J t x2) J t x3) (pA_X11_append_0 n (pI_X11_append_0 n (pI_X11_append_0 n I A J t x1) (pA_X11_append_0 n I A J t x1) J t x2) (pA_X11_append_0 n (pI_X11_append_0 n I A J t x1) (pA_X11_append_0 n I A J t x1) J t x2) J t x3) J t x4) (pA_X11_append_0 n (pI_X11_append_0 n (pI_X11_append_0 n (pI_X11_append_0 n I A J t x1) (pA_X11_append_0 n I A J t x1) J t x2) (pA_X11_append_0 n (pI_X11_append_0 n I A J t x1) (pA_X11_append_0 n I A J t x1) J t x2) J t x3) (pA_X11_append_0 n (pI_X11_append_0 n (pI_X11_append_0 n I A J t x1) (pA_X11_append_0 n I A J t x1) J t x2) (pA_X11_append_0 n (pI_X11_append_0 n I A J t x1) (pA_X11_append_0 n I A J t x1) J t x2) J t x3) J t x4) J t x5) else I)
def pA_X11_feed_0 (n : Nat) (I : Nat → Nat → Int32) (A : Nat → Nat → Int32) (J : Nat → Nat → Int64) (t : Bool × Bool) (x1 : Int32) (x2 : Int32) (x3 : Int32) (x4 : Int32) (x5 : Int32) : Nat → Nat → Int32 := (if (I 0 13) ≤ 1980 then (pA_X11_append_0 n (pI_X11_append_0 n (pI_X11_append_0 n (pI_X11_append_0 n (pI_X11_append_0 n I A J t x1) (pA_X11_append_0 n I A J t x1) J t x2) (pA_X11_append_0 n (pI_X11_append_0 n I A J t x1) (pA_X11_append_0 n I A J t x1) J t x2) J t x3) (pA_X11_append_0 n (pI_X11_append_0 n (pI_X11_append_0 n I A J t x1) (pA_X11_append_0 n I A J t x1) J t x2) (pA_X11_append_0 n (pI_X11_append_0 n I A J t x1) (pA_X11_append_0 n I A J t x1) J t x2) J t x3) J t x4) (pA_X11_append_0 n (pI_X11_append_0 n (pI_X11_append_0 n (pI_X11_append_0 n I A J t x1) (pA_X11_append_0 n I A J t x1) J t x2) (pA_X11_append_0 n (pI_X11_append_0 n I A J t x1) (pA_X11_append_0 n I A J t x1) J t x2) J t x3) (pA_X11_append_0 n (pI_X11_append_0 n (pI_X11_append_0 n I A J t x1) (pA_X11_append_0 n I A J t x1) J t x2) (pA_X11_append_0 n (pI_X11_append_0 n I A J t x1) (pA_X11_append_0 n I A J t x1) J t x2) J t x3) J t x4) J t x5) else A)
set_option maxRecDepth 100000 in
set_option maxHeartbeats 4000000 in
theorem cv_X11_feed_0 (g : cw_G) (n : Nat) (I : Nat → Nat → Int32) (A : Nat → Nat → Int32) (J : Nat → Nat → Int64) (t : Bool × Bool) (x1 : Int32) (x2 : Int32) (x3 : Int32) (x4 : Int32) (x5 : Int32) (hb : pb_X11_feed_0 n I A J t x1 x2 x3 x4 x5) : Cd g mX11_feed [(.ref (cw_z g + 0)), (.int x1), (.int x2), (.int x3), (.int x4), (.int x5)] (hp g I A J t) (some (.int (px_X11_feed_0 n I A J t x1 x2 x3 x4 x5))) (hp g (pI_X11_feed_0 n I A J t x1 x2 x3 x4 x5) (pA_X11_feed_0 n I A J t x1 x2 x3 x4 x5) J t) := by
  unfold pb_X11_feed_0 at hb
  unfold px_X11_feed_0 pI_X11_feed_0 pA_X11_feed_0
  refine Cd.of rfl (Nat.le_of_ble_eq_true rfl) (ev_gen (fun Q hQ => ?_))
  refine ev_aload_n (pc := 0) dX11_feed_0 rfl ?_
  refine tv_geti (pc := 1) dX11_feed_1 fl_X11_92 (by decide) rfl rfl ?_
  refine ev_sipush (pc := 4) (v := 1980) dX11_feed_4 (by decide) ?_
  have hT_7 := hb
  refine ev_icmp_le (pc := 7) (tgt := 12) dX11_feed_7 (by decide) (fun c_7 => ?_) (fun c_7 => ?_)
  · have hb := hT_7 c_7
    try simp only [if_pos c_7] at hQ
    refine ev_aload_n (pc := 12) dX11_feed_12 rfl ?_
    refine ev_iload_n (pc := 13) dX11_feed_13 rfl ?_
    refine ev_Vv (pc := 14) dX11_feed_14 lk_X11_99 cd_X11_append ar_X11_append ⟨by decide, rfl, rfl⟩ (cv_X11_append_0 g n I A J t x1 hb.1) (show 0 < 120 by decide) rfl rfl rfl rfl (Nat.le_of_ble_eq_true rfl) ⟨by decide, by decide⟩ ?_
    replace hb := hb.2
    refine ev_aload_n (pc := 17) dX11_feed_17 rfl ?_
    refine ev_iload_n (pc := 18) dX11_feed_18 rfl ?_
    refine ev_Vv (pc := 19) dX11_feed_19 lk_X11_99 cd_X11_append ar_X11_append ⟨by decide, rfl, rfl⟩ (cv_X11_append_0 g n (pI_X11_append_0 n I A J t x1) (pA_X11_append_0 n I A J t x1) J t x2 hb.1) (show 0 < 120 by decide) rfl rfl rfl rfl (Nat.le_of_ble_eq_true rfl) ⟨by decide, by decide⟩ ?_
    replace hb := hb.2
    refine ev_aload_n (pc := 22) dX11_feed_22 rfl ?_
    refine ev_iload_n (pc := 23) dX11_feed_23 rfl ?_
    refine ev_Vv (pc := 24) dX11_feed_24 lk_X11_99 cd_X11_append ar_X11_append ⟨by decide, rfl, rfl⟩ (cv_X11_append_0 g n (pI_X11_append_0 n (pI_X11_append_0 n I A J t x1) (pA_X11_append_0 n I A J t x1) J t x2) (pA_X11_append_0 n (pI_X11_append_0 n I A J t x1) (pA_X11_append_0 n I A J t x1) J t x2) J t x3 hb.1) (show 0 < 120 by decide) rfl rfl rfl rfl (Nat.le_of_ble_eq_true rfl) ⟨by decide, by decide⟩ ?_
    replace hb := hb.2
    refine ev_aload_n (pc := 27) dX11_feed_27 rfl ?_
    refine ev_iload (pc := 28) dX11_feed_28 rfl ?_
    refine ev_Vv (pc := 30) dX11_feed_30 lk_X11_99 cd_X11_append ar_X11_append ⟨by decide, rfl, rfl⟩ (cv_X11_append_0 g n (pI_X11_append_0 n (pI_X11_append_0 n (pI_X11_append_0 n I A J t x1) (pA_X11_append_0 n I A J t x1) J t x2) (pA_X11_append_0 n (pI_X11_append_0 n I A J t x1) (pA_X11_append_0 n I A J t x1) J t x2) J t x3) (pA_X11_append_0 n (pI_X11_append_0 n (pI_X11_append_0 n I A J t x1) (pA_X11_append_0 n I A J t x1) J t x2) (pA_X11_append_0 n (pI_X11_append_0 n I A J t x1) (pA_X11_append_0 n I A J t x1) J t x2) J t x3) J t x4 hb.1) (show 0 < 120 by decide) rfl rfl rfl rfl (Nat.le_of_ble_eq_true rfl) ⟨by decide, by decide⟩ ?_
    replace hb := hb.2
    refine ev_aload_n (pc := 33) dX11_feed_33 rfl ?_
    refine ev_iload (pc := 34) dX11_feed_34 rfl ?_
    refine ev_Vv (pc := 36) dX11_feed_36 lk_X11_99 cd_X11_append ar_X11_append ⟨by decide, rfl, rfl⟩ (cv_X11_append_0 g n (pI_X11_append_0 n (pI_X11_append_0 n (pI_X11_append_0 n (pI_X11_append_0 n I A J t x1) (pA_X11_append_0 n I A J t x1) J t x2) (pA_X11_append_0 n (pI_X11_append_0 n I A J t x1) (pA_X11_append_0 n I A J t x1) J t x2) J t x3) (pA_X11_append_0 n (pI_X11_append_0 n (pI_X11_append_0 n I A J t x1) (pA_X11_append_0 n I A J t x1) J t x2) (pA_X11_append_0 n (pI_X11_append_0 n I A J t x1) (pA_X11_append_0 n I A J t x1) J t x2) J t x3) J t x4) (pA_X11_append_0 n (pI_X11_append_0 n (pI_X11_append_0 n (pI_X11_append_0 n I A J t x1) (pA_X11_append_0 n I A J t x1) J t x2) (pA_X11_append_0 n (pI_X11_append_0 n I A J t x1) (pA_X11_append_0 n I A J t x1) J t x2) J t x3) (pA_X11_append_0 n (pI_X11_append_0 n (pI_X11_append_0 n I A J t x1) (pA_X11_append_0 n I A J t x1) J t x2) (pA_X11_append_0 n (pI_X11_append_0 n I A J t x1) (pA_X11_append_0 n I A J t x1) J t x2) J t x3) J t x4) J t x5 hb) (show 0 < 120 by decide) rfl rfl rfl rfl (Nat.le_of_ble_eq_true rfl) ⟨by decide, by decide⟩ ?_
    refine ev_aload_n (pc := 39) dX11_feed_39 rfl ?_
    refine tv_geti (pc := 40) dX11_feed_40 fl_X11_92 (by decide) rfl rfl ?_
    exact ev_iret (pc := 43) dX11_feed_43 rfl (by decide) (by decide) (hQ _ _ ⟨rfl, rfl⟩)
  · try simp only [if_neg c_7] at hQ
    refine ev_iconst (pc := 10) (v := (-1)) dX11_feed_10 (by decide) ?_
    exact ev_iret (pc := 11) dX11_feed_11 rfl (by decide) (by decide) (hQ _ _ ⟨rfl, rfl⟩)

def qI21_X11_back_0 (n : Nat) (I : Nat → Nat → Int32) (A : Nat → Nat → Int32) (J : Nat → Nat → Int64) (t : Bool × Bool) (x1 : Int32) : Nat → Nat → Int32 := cw_u I 0 13 ((I 0 13) - x1)
def px_X11_back_0 (n : Nat) (I : Nat → Nat → Int32) (A : Nat → Nat → Int32) (J : Nat → Nat → Int64) (t : Bool × Bool) (x1 : Int32) : Int32 := (if x1 < 0 then (-1) else (if x1 ≤ (I 0 13) then ((qI21_X11_back_0 n I A J t x1) 0 13) else (-1)))
def pI_X11_back_0 (n : Nat) (I : Nat → Nat → Int32) (A : Nat → Nat → Int32) (J : Nat → Nat → Int64) (t : Bool × Bool) (x1 : Int32) : Nat → Nat → Int32 := (if x1 < 0 then I else (if x1 ≤ (I 0 13) then (qI21_X11_back_0 n I A J t x1) else I))
set_option maxRecDepth 100000 in
set_option maxHeartbeats 4000000 in
theorem cv_X11_back_0 (g : cw_G) (n : Nat) (I : Nat → Nat → Int32) (A : Nat → Nat → Int32) (J : Nat → Nat → Int64) (t : Bool × Bool) (x1 : Int32) : Cd g mX11_back [(.ref (cw_z g + 0)), (.int x1)] (hp g I A J t) (some (.int (px_X11_back_0 n I A J t x1))) (hp g (pI_X11_back_0 n I A J t x1) A J t) := by
  unfold px_X11_back_0 pI_X11_back_0
  refine Cd.of rfl (Nat.le_of_ble_eq_true rfl) (ev_gen (fun Q hQ => ?_))
  refine ev_iload_n (pc := 0) dX11_back_0 rfl ?_
  refine ev_if_lt (pc := 1) (tgt := 12) dX11_back_1 (by decide) (fun c_1 => ?_) (fun c_1 => ?_)
  · try simp only [if_pos c_1] at hQ
    refine ev_iconst (pc := 12) (v := (-1)) dX11_back_12 (by decide) ?_
    exact ev_iret (pc := 13) dX11_back_13 rfl (by decide) (by decide) (hQ _ _ ⟨rfl, rfl⟩)
  · try simp only [if_neg c_1] at hQ
    refine ev_iload_n (pc := 4) dX11_back_4 rfl ?_
    refine ev_aload_n (pc := 5) dX11_back_5 rfl ?_
    refine tv_geti (pc := 6) dX11_back_6 fl_X11_92 (by decide) rfl rfl ?_
    refine ev_icmp_le (pc := 9) (tgt := 14) dX11_back_9 (by decide) (fun c_9 => ?_) (fun c_9 => ?_)
    · try simp only [if_pos c_9] at hQ
      refine ev_aload_n (pc := 14) dX11_back_14 rfl ?_
      refine ev_dup (pc := 15) dX11_back_15 rfl ?_
      refine tv_geti (pc := 16) dX11_back_16 fl_X11_92 (by decide) rfl rfl ?_
      refine ev_iload_n (pc := 19) dX11_back_19 rfl ?_
      refine ev_isub (pc := 20) dX11_back_20 ?_
      refine tw_puti (pc := 21) (I2 := (qI21_X11_back_0 n I A J t x1)) dX11_back_21 fp_X11_92 (by decide) rfl rfl rfl ?_
      refine ev_aload_n (pc := 24) dX11_back_24 rfl ?_
      refine tv_geti (pc := 25) dX11_back_25 fl_X11_92 (by decide) rfl rfl ?_
      exact ev_iret (pc := 28) dX11_back_28 rfl (by decide) (by decide) (hQ _ _ ⟨rfl, rfl⟩)
    · try simp only [if_neg c_9] at hQ
      refine ev_iconst (pc := 12) (v := (-1)) dX11_back_12 (by decide) ?_
      exact ev_iret (pc := 13) dX11_back_13 rfl (by decide) (by decide) (hQ _ _ ⟨rfl, rfl⟩)

def px_X11_place_0 (n : Nat) (I : Nat → Nat → Int32) (A : Nat → Nat → Int32) (J : Nat → Nat → Int64) (t : Bool × Bool) : Int32 := (I 33 11)
set_option maxRecDepth 100000 in
set_option maxHeartbeats 4000000 in
theorem cv_X11_place_0 (g : cw_G) (n : Nat) (I : Nat → Nat → Int32) (A : Nat → Nat → Int32) (J : Nat → Nat → Int64) (t : Bool × Bool) : Cd g mX11_place [(.ref (cw_z g + 0))] (hp g I A J t) (some (.int (px_X11_place_0 n I A J t))) (hp g I A J t) := by
  unfold px_X11_place_0
  refine Cd.of rfl (Nat.le_of_ble_eq_true rfl) (ev_gen (fun Q hQ => ?_))
  refine ev_aload_n (pc := 0) dX11_place_0 rfl ?_
  refine tv_getr (pc := 1) (d := 33) dX11_place_1 fl_X11_63 (by decide) rfl rfl ?_
  refine tv_geti (pc := 4) dX11_place_4 fl_X11_110 (by decide) rfl rfl ?_
  exact ev_iret (pc := 7) dX11_place_7 rfl (by decide) (by decide) (hQ _ _ ⟨rfl, rfl⟩)

def qIm34_X11_ground_0 (n : Nat) (I : Nat → Nat → Int32) (A : Nat → Nat → Int32) (J : Nat → Nat → Int64) (t : Bool × Bool) (x1 : Int32) (x2 : Int32) (x3 : Int32) : Nat → Nat → Int32 := if x3 = 0 then (pI_X9_add_5 n I A J t x1 x2 0) else (pI_X9_add_1 n I A J t x1 x2 x3)
def qAm34_X11_ground_0 (n : Nat) (I : Nat → Nat → Int32) (A : Nat → Nat → Int32) (J : Nat → Nat → Int64) (t : Bool × Bool) (x1 : Int32) (x2 : Int32) (x3 : Int32) : Nat → Nat → Int32 := if x3 = 0 then (pA_X9_add_5 n I A J t x1 x2 0) else (pA_X9_add_1 n I A J t x1 x2 x3)
def qs0m34_X11_ground_0 (n : Nat) (I : Nat → Nat → Int32) (A : Nat → Nat → Int32) (J : Nat → Nat → Int64) (t : Bool × Bool) (x1 : Int32) (x2 : Int32) (x3 : Int32) : Int32 := if x3 = 0 then (px_X9_add_5 n I A J t x1 x2 0) else (px_X9_add_1 n I A J t x1 x2 x3)
def pb_X11_ground_0 (n : Nat) (I : Nat → Nat → Int32) (A : Nat → Nat → Int32) (J : Nat → Nat → Int64) (t : Bool × Bool) (x1 : Int32) (x2 : Int32) (x3 : Int32) : Prop := (¬ x1 < 0 → (¬ 24 ≤ x1 → (¬ x2 < 0 → (¬ 7 ≤ x2 → (¬ x3 < 0 → (x3 ≤ 10000 → (¬ x3 = 0 → pb_X9_add_1 n I A J t x1 x2 x3) ∧ (x3 = 0 → pb_X9_add_5 n I A J t x1 x2 0)))))))
def px_X11_ground_0 (n : Nat) (I : Nat → Nat → Int32) (A : Nat → Nat → Int32) (J : Nat → Nat → Int64) (t : Bool × Bool) (x1 : Int32) (x2 : Int32) (x3 : Int32) : Int32 := (if x1 < 0 then (-1) else (if 24 ≤ x1 then (-1) else (if x2 < 0 then (-1) else (if 7 ≤ x2 then (-1) else (if x3 < 0 then (-1) else (if x3 ≤ 10000 then (qs0m34_X11_ground_0 n I A J t x1 x2 x3) else (-1)))))))
def pI_X11_ground_0 (n : Nat) (I : Nat → Nat → Int32) (A : Nat → Nat → Int32) (J : Nat → Nat → Int64) (t : Bool × Bool) (x1 : Int32) (x2 : Int32) (x3 : Int32) : Nat → Nat → Int32 := (if x1 < 0 then I else (if 24 ≤ x1 then I else (if x2 < 0 then I else (if 7 ≤ x2 then I else (if x3 < 0 then I else (if x3 ≤ 10000 then (qIm34_X11_ground_0 n I A J t x1 x2 x3) else I))))))
def pA_X11_ground_0 (n : Nat) (I : Nat → Nat → Int32) (A : Nat → Nat → Int32) (J : Nat → Nat → Int64) (t : Bool × Bool) (x1 : Int32) (x2 : Int32) (x3 : Int32) : Nat → Nat → Int32 := (if x1 < 0 then A else (if 24 ≤ x1 then A else (if x2 < 0 then A else (if 7 ≤ x2 then A else (if x3 < 0 then A else (if x3 ≤ 10000 then (qAm34_X11_ground_0 n I A J t x1 x2 x3) else A))))))
set_option maxRecDepth 100000 in
set_option maxHeartbeats 4000000 in
theorem cv_X11_ground_0 (g : cw_G) (n : Nat) (I : Nat → Nat → Int32) (A : Nat → Nat → Int32) (J : Nat → Nat → Int64) (t : Bool × Bool) (x1 : Int32) (x2 : Int32) (x3 : Int32) (hb : pb_X11_ground_0 n I A J t x1 x2 x3) : Cd g mX11_ground [(.ref (cw_z g + 0)), (.int x1), (.int x2), (.int x3)] (hp g I A J t) (some (.int (px_X11_ground_0 n I A J t x1 x2 x3))) (hp g (pI_X11_ground_0 n I A J t x1 x2 x3) (pA_X11_ground_0 n I A J t x1 x2 x3) J t) := by
  unfold pb_X11_ground_0 at hb
  unfold px_X11_ground_0 pI_X11_ground_0 pA_X11_ground_0
  refine Cd.of rfl (Nat.le_of_ble_eq_true rfl) (ev_gen (fun Q hQ => ?_))
  refine ev_iload_n (pc := 0) dX11_ground_0 rfl ?_
  have hF_1 := hb
  refine ev_if_lt (pc := 1) (tgt := 31) dX11_ground_1 (by decide) (fun c_1 => ?_) (fun c_1 => ?_)
  · try simp only [if_pos c_1] at hQ
    refine ev_iconst (pc := 31) (v := (-1)) dX11_ground_31 (by decide) ?_
    exact ev_iret (pc := 32) dX11_ground_32 rfl (by decide) (by decide) (hQ _ _ ⟨rfl, rfl⟩)
  · have hb := hF_1 c_1
    try simp only [if_neg c_1] at hQ
    refine ev_iload_n (pc := 4) dX11_ground_4 rfl ?_
    refine ev_bipush (pc := 5) (v := 24) dX11_ground_5 (by decide) ?_
    have hF_7 := hb
    refine ev_icmp_ge (pc := 7) (tgt := 31) dX11_ground_7 (by decide) (fun c_7 => ?_) (fun c_7 => ?_)
    · try simp only [if_pos c_7] at hQ
      refine ev_iconst (pc := 31) (v := (-1)) dX11_ground_31 (by decide) ?_
      exact ev_iret (pc := 32) dX11_ground_32 rfl (by decide) (by decide) (hQ _ _ ⟨rfl, rfl⟩)
    · have hb := hF_7 c_7
      try simp only [if_neg c_7] at hQ
      refine ev_iload_n (pc := 10) dX11_ground_10 rfl ?_
      have hF_11 := hb
      refine ev_if_lt (pc := 11) (tgt := 31) dX11_ground_11 (by decide) (fun c_11 => ?_) (fun c_11 => ?_)
      · try simp only [if_pos c_11] at hQ
        refine ev_iconst (pc := 31) (v := (-1)) dX11_ground_31 (by decide) ?_
        exact ev_iret (pc := 32) dX11_ground_32 rfl (by decide) (by decide) (hQ _ _ ⟨rfl, rfl⟩)
      · have hb := hF_11 c_11
        try simp only [if_neg c_11] at hQ
        refine ev_iload_n (pc := 14) dX11_ground_14 rfl ?_
        refine ev_bipush (pc := 15) (v := 7) dX11_ground_15 (by decide) ?_
        have hF_17 := hb
        refine ev_icmp_ge (pc := 17) (tgt := 31) dX11_ground_17 (by decide) (fun c_17 => ?_) (fun c_17 => ?_)
        · try simp only [if_pos c_17] at hQ
          refine ev_iconst (pc := 31) (v := (-1)) dX11_ground_31 (by decide) ?_
          exact ev_iret (pc := 32) dX11_ground_32 rfl (by decide) (by decide) (hQ _ _ ⟨rfl, rfl⟩)
        · have hb := hF_17 c_17
          try simp only [if_neg c_17] at hQ
          refine ev_iload_n (pc := 20) dX11_ground_20 rfl ?_
          have hF_21 := hb
          refine ev_if_lt (pc := 21) (tgt := 31) dX11_ground_21 (by decide) (fun c_21 => ?_) (fun c_21 => ?_)
          · try simp only [if_pos c_21] at hQ
            refine ev_iconst (pc := 31) (v := (-1)) dX11_ground_31 (by decide) ?_
            exact ev_iret (pc := 32) dX11_ground_32 rfl (by decide) (by decide) (hQ _ _ ⟨rfl, rfl⟩)
          · have hb := hF_21 c_21
            try simp only [if_neg c_21] at hQ
            refine ev_iload_n (pc := 24) dX11_ground_24 rfl ?_
            refine ev_sipush (pc := 25) (v := 10000) dX11_ground_25 (by decide) ?_
            have hT_28 := hb
            refine ev_icmp_le (pc := 28) (tgt := 33) dX11_ground_28 (by decide) (fun c_28 => ?_) (fun c_28 => ?_)
            · have hb := hT_28 c_28
              try simp only [if_pos c_28] at hQ
              refine ev_iload_n (pc := 33) dX11_ground_33 rfl ?_
              obtain ⟨hT_34, hF_34⟩ := hb
              refine ev_cut (pj := 60) (Lj := [some (.ref (cw_z g + 0)), some (.int x1), some (.int x2), some (.int x3)]) (stj := [(.int (qs0m34_X11_ground_0 n I A J t x1 x2 x3))]) (σj := hp g (qIm34_X11_ground_0 n I A J t x1 x2 x3) (qAm34_X11_ground_0 n I A J t x1 x2 x3) J t) ?_ (fun hJ_34 => ?_)
              rotate_left
              · refine ev_if_ne (pc := 34) (tgt := 50) dX11_ground_34 (by decide) (fun c_34 => ?_) (fun c_34 => ?_)
                · have hb := hT_34 c_34
                  refine ev_aload_n (pc := 50) dX11_ground_50 rfl ?_
                  refine tv_getr (pc := 51) (d := 1) dX11_ground_51 fl_X11_14 (by decide) rfl rfl ?_
                  refine ev_iload_n (pc := 54) dX11_ground_54 rfl ?_
                  refine ev_iload_n (pc := 55) dX11_ground_55 rfl ?_
                  refine ev_iload_n (pc := 56) dX11_ground_56 rfl ?_
                  refine ev_Vi (pc := 57) dX11_ground_57 lk_X11_113 cd_X9_add ar_X9_add ⟨by decide, rfl, rfl⟩ (cv_X9_add_1 g n I A J t x1 x2 x3 hb) (show 1 < 120 by decide) rfl rfl rfl rfl (Nat.le_of_ble_eq_true rfl) ⟨by decide, by decide⟩ ?_
                  simp only [qIm34_X11_ground_0, qAm34_X11_ground_0, qs0m34_X11_ground_0, if_neg c_34] at hJ_34
                  exact ev_loc hJ_34 cw_le0
                · have hb := hF_34 c_34
                  refine ev_aload_n (pc := 37) dX11_ground_37 rfl ?_
                  refine tv_getr (pc := 38) (d := 5) dX11_ground_38 fl_X11_18 (by decide) rfl rfl ?_
                  refine ev_iload_n (pc := 41) dX11_ground_41 rfl ?_
                  refine ev_iload_n (pc := 42) dX11_ground_42 rfl ?_
                  refine ev_iconst (pc := 43) (v := 0) dX11_ground_43 (by decide) ?_
                  refine ev_Vi (pc := 44) dX11_ground_44 lk_X11_113 cd_X9_add ar_X9_add ⟨by decide, rfl, rfl⟩ (cv_X9_add_5 g n I A J t x1 x2 0 hb) (show 5 < 120 by decide) rfl rfl rfl rfl (Nat.le_of_ble_eq_true rfl) ⟨by decide, by decide⟩ ?_
                  refine ev_goto (pc := 47) (tgt := 60) dX11_ground_47 (by decide) ?_
                  simp only [qIm34_X11_ground_0, qAm34_X11_ground_0, qs0m34_X11_ground_0, if_pos c_34] at hJ_34
                  exact ev_loc hJ_34 cw_le0
              exact ev_iret (pc := 60) dX11_ground_60 rfl (by decide) (by decide) (hQ _ _ ⟨rfl, rfl⟩)
            · try simp only [if_neg c_28] at hQ
              refine ev_iconst (pc := 31) (v := (-1)) dX11_ground_31 (by decide) ?_
              exact ev_iret (pc := 32) dX11_ground_32 rfl (by decide) (by decide) (hQ _ _ ⟨rfl, rfl⟩)

def pb_X11_mast_0 (n : Nat) (I : Nat → Nat → Int32) (A : Nat → Nat → Int32) (J : Nat → Nat → Int64) (t : Bool × Bool) (x1 : Int32) (x2 : Int32) : Prop := (¬ (px_X9_has_5 n I A J t x1) = 0 → (¬ x2 < 1 → (x2 ≤ 9 → pb_X2_add_9 n I A J t x1 x2)))
def px_X11_mast_0 (n : Nat) (I : Nat → Nat → Int32) (A : Nat → Nat → Int32) (J : Nat → Nat → Int64) (t : Bool × Bool) (x1 : Int32) (x2 : Int32) : Int32 := (if (px_X9_has_5 n I A J t x1) = 0 then (-1) else (if x2 < 1 then (-1) else (if x2 ≤ 9 then (px_X2_add_9 n I A J t x1 x2) else (-1))))
def pI_X11_mast_0 (n : Nat) (I : Nat → Nat → Int32) (A : Nat → Nat → Int32) (J : Nat → Nat → Int64) (t : Bool × Bool) (x1 : Int32) (x2 : Int32) : Nat → Nat → Int32 := (if (px_X9_has_5 n I A J t x1) = 0 then I else (if x2 < 1 then I else (if x2 ≤ 9 then (pI_X2_add_9 n I A J t x1 x2) else I)))
def pA_X11_mast_0 (n : Nat) (I : Nat → Nat → Int32) (A : Nat → Nat → Int32) (J : Nat → Nat → Int64) (t : Bool × Bool) (x1 : Int32) (x2 : Int32) : Nat → Nat → Int32 := (if (px_X9_has_5 n I A J t x1) = 0 then A else (if x2 < 1 then A else (if x2 ≤ 9 then (pA_X2_add_9 n I A J t x1 x2) else A)))
set_option maxRecDepth 100000 in
set_option maxHeartbeats 4000000 in
theorem cv_X11_mast_0 (g : cw_G) (n : Nat) (I : Nat → Nat → Int32) (A : Nat → Nat → Int32) (J : Nat → Nat → Int64) (t : Bool × Bool) (x1 : Int32) (x2 : Int32) (hb : pb_X11_mast_0 n I A J t x1 x2) : Cd g mX11_mast [(.ref (cw_z g + 0)), (.int x1), (.int x2)] (hp g I A J t) (some (.int (px_X11_mast_0 n I A J t x1 x2))) (hp g (pI_X11_mast_0 n I A J t x1 x2) (pA_X11_mast_0 n I A J t x1 x2) J t) := by
  unfold pb_X11_mast_0 at hb
  unfold px_X11_mast_0 pI_X11_mast_0 pA_X11_mast_0
  refine Cd.of rfl (Nat.le_of_ble_eq_true rfl) (ev_gen (fun Q hQ => ?_))
  refine ev_aload_n (pc := 0) dX11_mast_0 rfl ?_
  refine tv_getr (pc := 1) (d := 5) dX11_mast_1 fl_X11_18 (by decide) rfl rfl ?_
  refine ev_iload_n (pc := 4) dX11_mast_4 rfl ?_
  refine ev_Vi (pc := 5) dX11_mast_5 lk_X11_117 cd_X9_has ar_X9_has ⟨by decide, rfl, rfl⟩ (cv_X9_has_5 g n I A J t x1) (show 5 < 120 by decide) rfl rfl rfl rfl (Nat.le_of_ble_eq_true rfl) ⟨by decide, by decide⟩ ?_
  have hF_8 := hb
  refine ev_if_eq (pc := 8) (tgt := 22) dX11_mast_8 (by decide) (fun c_8 => ?_) (fun c_8 => ?_)
  · try simp only [if_pos c_8] at hQ
    refine ev_iconst (pc := 22) (v := (-1)) dX11_mast_22 (by decide) ?_
    exact ev_iret (pc := 23) dX11_mast_23 rfl (by decide) (by decide) (hQ _ _ ⟨rfl, rfl⟩)
  · have hb := hF_8 c_8
    try simp only [if_neg c_8] at hQ
    refine ev_iload_n (pc := 11) dX11_mast_11 rfl ?_
    refine ev_iconst (pc := 12) (v := 1) dX11_mast_12 (by decide) ?_
    have hF_13 := hb
    refine ev_icmp_lt (pc := 13) (tgt := 22) dX11_mast_13 (by decide) (fun c_13 => ?_) (fun c_13 => ?_)
    · try simp only [if_pos c_13] at hQ
      refine ev_iconst (pc := 22) (v := (-1)) dX11_mast_22 (by decide) ?_
      exact ev_iret (pc := 23) dX11_mast_23 rfl (by decide) (by decide) (hQ _ _ ⟨rfl, rfl⟩)
    · have hb := hF_13 c_13
      try simp only [if_neg c_13] at hQ
      refine ev_iload_n (pc := 16) dX11_mast_16 rfl ?_
      refine ev_bipush (pc := 17) (v := 9) dX11_mast_17 (by decide) ?_
      have hT_19 := hb
      refine ev_icmp_le (pc := 19) (tgt := 24) dX11_mast_19 (by decide) (fun c_19 => ?_) (fun c_19 => ?_)
      · have hb := hT_19 c_19
        try simp only [if_pos c_19] at hQ
        refine ev_aload_n (pc := 24) dX11_mast_24 rfl ?_
        refine tv_getr (pc := 25) (d := 9) dX11_mast_25 fl_X11_24 (by decide) rfl rfl ?_
        refine ev_iload_n (pc := 28) dX11_mast_28 rfl ?_
        refine ev_iload_n (pc := 29) dX11_mast_29 rfl ?_
        refine ev_Vi (pc := 30) dX11_mast_30 lk_X11_121 cd_X2_add ar_X2_add ⟨by decide, rfl, rfl⟩ (cv_X2_add_9 g n I A J t x1 x2 hb) (show 9 < 120 by decide) rfl rfl rfl rfl (Nat.le_of_ble_eq_true rfl) ⟨by decide, by decide⟩ ?_
        exact ev_iret (pc := 33) dX11_mast_33 rfl (by decide) (by decide) (hQ _ _ ⟨rfl, rfl⟩)
      · try simp only [if_neg c_19] at hQ
        refine ev_iconst (pc := 22) (v := (-1)) dX11_mast_22 (by decide) ?_
        exact ev_iret (pc := 23) dX11_mast_23 rfl (by decide) (by decide) (hQ _ _ ⟨rfl, rfl⟩)

def pb_X11_programme_0 (n : Nat) (I : Nat → Nat → Int32) (A : Nat → Nat → Int32) (J : Nat → Nat → Int64) (t : Bool × Bool) (x1 : Int32) (x2 : Int32) (x3 : Int32) : Prop := (¬ (px_X9_has_1 n I A J t x1) = 0 → (¬ (px_X11_isSpan n I A J t x2 x3) = 0 → pb_X6_add_12 n I A J t x1 x2 x3))
def px_X11_programme_0 (n : Nat) (I : Nat → Nat → Int32) (A : Nat → Nat → Int32) (J : Nat → Nat → Int64) (t : Bool × Bool) (x1 : Int32) (x2 : Int32) (x3 : Int32) : Int32 := (if (px_X9_has_1 n I A J t x1) = 0 then (-1) else (if (px_X11_isSpan n I A J t x2 x3) = 0 then (-1) else (px_X6_add_12 n I A J t x1 x2 x3)))
def pI_X11_programme_0 (n : Nat) (I : Nat → Nat → Int32) (A : Nat → Nat → Int32) (J : Nat → Nat → Int64) (t : Bool × Bool) (x1 : Int32) (x2 : Int32) (x3 : Int32) : Nat → Nat → Int32 := (if (px_X9_has_1 n I A J t x1) = 0 then I else (if (px_X11_isSpan n I A J t x2 x3) = 0 then I else (pI_X6_add_12 n I A J t x1 x2 x3)))
def pA_X11_programme_0 (n : Nat) (I : Nat → Nat → Int32) (A : Nat → Nat → Int32) (J : Nat → Nat → Int64) (t : Bool × Bool) (x1 : Int32) (x2 : Int32) (x3 : Int32) : Nat → Nat → Int32 := (if (px_X9_has_1 n I A J t x1) = 0 then A else (if (px_X11_isSpan n I A J t x2 x3) = 0 then A else (pA_X6_add_12 n I A J t x1 x2 x3)))
set_option maxRecDepth 100000 in
set_option maxHeartbeats 4000000 in
theorem cv_X11_programme_0 (g : cw_G) (n : Nat) (I : Nat → Nat → Int32) (A : Nat → Nat → Int32) (J : Nat → Nat → Int64) (t : Bool × Bool) (x1 : Int32) (x2 : Int32) (x3 : Int32) (hb : pb_X11_programme_0 n I A J t x1 x2 x3) : Cd g mX11_programme [(.ref (cw_z g + 0)), (.int x1), (.int x2), (.int x3)] (hp g I A J t) (some (.int (px_X11_programme_0 n I A J t x1 x2 x3))) (hp g (pI_X11_programme_0 n I A J t x1 x2 x3) (pA_X11_programme_0 n I A J t x1 x2 x3) J t) := by
  unfold pb_X11_programme_0 at hb
  unfold px_X11_programme_0 pI_X11_programme_0 pA_X11_programme_0
  refine Cd.of rfl (Nat.le_of_ble_eq_true rfl) (ev_gen (fun Q hQ => ?_))
  refine ev_aload_n (pc := 0) dX11_programme_0 rfl ?_
  refine tv_getr (pc := 1) (d := 1) dX11_programme_1 fl_X11_14 (by decide) rfl rfl ?_
  refine ev_iload_n (pc := 4) dX11_programme_4 rfl ?_
  refine ev_Vi (pc := 5) dX11_programme_5 lk_X11_117 cd_X9_has ar_X9_has ⟨by decide, rfl, rfl⟩ (cv_X9_has_1 g n I A J t x1) (show 1 < 120 by decide) rfl rfl rfl rfl (Nat.le_of_ble_eq_true rfl) ⟨by decide, by decide⟩ ?_
  have hF_8 := hb
  refine ev_if_eq (pc := 8) (tgt := 19) dX11_programme_8 (by decide) (fun c_8 => ?_) (fun c_8 => ?_)
  · try simp only [if_pos c_8] at hQ
    refine ev_iconst (pc := 19) (v := (-1)) dX11_programme_19 (by decide) ?_
    exact ev_iret (pc := 20) dX11_programme_20 rfl (by decide) (by decide) (hQ _ _ ⟨rfl, rfl⟩)
  · have hb := hF_8 c_8
    try simp only [if_neg c_8] at hQ
    refine ev_iload_n (pc := 11) dX11_programme_11 rfl ?_
    refine ev_iload_n (pc := 12) dX11_programme_12 rfl ?_
    refine ev_Si (pc := 13) dX11_programme_13 lk_X11_124 cd_X11_isSpan ar_X11_isSpan ⟨by decide, rfl, rfl⟩ (cv_X11_isSpan g n I A J t x2 x3) rfl rfl (Nat.le_of_ble_eq_true rfl) ⟨by decide, by decide⟩ ?_
    have hT_16 := hb
    refine ev_if_ne (pc := 16) (tgt := 21) dX11_programme_16 (by decide) (fun c_16 => ?_) (fun c_16 => ?_)
    · have hb := hT_16 c_16
      try simp only [if_neg c_16] at hQ
      refine ev_aload_n (pc := 21) dX11_programme_21 rfl ?_
      refine tv_getr (pc := 22) (d := 12) dX11_programme_22 fl_X11_31 (by decide) rfl rfl ?_
      refine ev_iload_n (pc := 25) dX11_programme_25 rfl ?_
      refine ev_iload_n (pc := 26) dX11_programme_26 rfl ?_
      refine ev_iload_n (pc := 27) dX11_programme_27 rfl ?_
      refine ev_Vi (pc := 28) dX11_programme_28 lk_X11_128 cd_X6_add ar_X6_add ⟨by decide, rfl, rfl⟩ (cv_X6_add_12 g n I A J t x1 x2 x3 hb) (show 12 < 120 by decide) rfl rfl rfl rfl (Nat.le_of_ble_eq_true rfl) ⟨by decide, by decide⟩ ?_
      exact ev_iret (pc := 31) dX11_programme_31 rfl (by decide) (by decide) (hQ _ _ ⟨rfl, rfl⟩)
    · try simp only [if_pos c_16] at hQ
      refine ev_iconst (pc := 19) (v := (-1)) dX11_programme_19 (by decide) ?_
      exact ev_iret (pc := 20) dX11_programme_20 rfl (by decide) (by decide) (hQ _ _ ⟨rfl, rfl⟩)

def pb_X11_sheet_0 (n : Nat) (I : Nat → Nat → Int32) (A : Nat → Nat → Int32) (J : Nat → Nat → Int64) (t : Bool × Bool) (x1 : Int32) (x2 : Int32) : Prop := (¬ x1 < 0 → (¬ 4 ≤ x1 → (¬ x2 < (-1) → (x2 ≤ 270 → pb_X8_renew_16 n I A J t x1 x2))))
def px_X11_sheet_0 (n : Nat) (I : Nat → Nat → Int32) (A : Nat → Nat → Int32) (J : Nat → Nat → Int64) (t : Bool × Bool) (x1 : Int32) (x2 : Int32) : Int32 := (if x1 < 0 then 0 else (if 4 ≤ x1 then 0 else (if x2 < (-1) then 0 else (if x2 ≤ 270 then 1 else 0))))
def pA_X11_sheet_0 (n : Nat) (I : Nat → Nat → Int32) (A : Nat → Nat → Int32) (J : Nat → Nat → Int64) (t : Bool × Bool) (x1 : Int32) (x2 : Int32) : Nat → Nat → Int32 := (if x1 < 0 then A else (if 4 ≤ x1 then A else (if x2 < (-1) then A else (if x2 ≤ 270 then (pA_X8_renew_16 n I A J t x1 x2) else A))))
set_option maxRecDepth 100000 in
set_option maxHeartbeats 4000000 in
theorem cv_X11_sheet_0 (g : cw_G) (n : Nat) (I : Nat → Nat → Int32) (A : Nat → Nat → Int32) (J : Nat → Nat → Int64) (t : Bool × Bool) (x1 : Int32) (x2 : Int32) (hb : pb_X11_sheet_0 n I A J t x1 x2) : Cd g mX11_sheet [(.ref (cw_z g + 0)), (.int x1), (.int x2)] (hp g I A J t) (some (.int (px_X11_sheet_0 n I A J t x1 x2))) (hp g I (pA_X11_sheet_0 n I A J t x1 x2) J t) := by
  unfold pb_X11_sheet_0 at hb
  unfold px_X11_sheet_0 pA_X11_sheet_0
  refine Cd.of rfl (Nat.le_of_ble_eq_true rfl) (ev_gen (fun Q hQ => ?_))
  refine ev_iload_n (pc := 0) dX11_sheet_0 rfl ?_
  have hF_1 := hb
  refine ev_if_lt (pc := 1) (tgt := 21) dX11_sheet_1 (by decide) (fun c_1 => ?_) (fun c_1 => ?_)
  · try simp only [if_pos c_1] at hQ
    refine ev_iconst (pc := 21) (v := 0) dX11_sheet_21 (by decide) ?_
    exact ev_zret (pc := 22) dX11_sheet_22 rfl rfl (by decide) (by decide) (hQ _ _ ⟨rfl, rfl⟩)
  · have hb := hF_1 c_1
    try simp only [if_neg c_1] at hQ
    refine ev_iload_n (pc := 4) dX11_sheet_4 rfl ?_
    refine ev_iconst (pc := 5) (v := 4) dX11_sheet_5 (by decide) ?_
    have hF_6 := hb
    refine ev_icmp_ge (pc := 6) (tgt := 21) dX11_sheet_6 (by decide) (fun c_6 => ?_) (fun c_6 => ?_)
    · try simp only [if_pos c_6] at hQ
      refine ev_iconst (pc := 21) (v := 0) dX11_sheet_21 (by decide) ?_
      exact ev_zret (pc := 22) dX11_sheet_22 rfl rfl (by decide) (by decide) (hQ _ _ ⟨rfl, rfl⟩)
    · have hb := hF_6 c_6
      try simp only [if_neg c_6] at hQ
      refine ev_iload_n (pc := 9) dX11_sheet_9 rfl ?_
      refine ev_iconst (pc := 10) (v := (-1)) dX11_sheet_10 (by decide) ?_
      have hF_11 := hb
      refine ev_icmp_lt (pc := 11) (tgt := 21) dX11_sheet_11 (by decide) (fun c_11 => ?_) (fun c_11 => ?_)
      · try simp only [if_pos c_11] at hQ
        refine ev_iconst (pc := 21) (v := 0) dX11_sheet_21 (by decide) ?_
        exact ev_zret (pc := 22) dX11_sheet_22 rfl rfl (by decide) (by decide) (hQ _ _ ⟨rfl, rfl⟩)
      · have hb := hF_11 c_11
        try simp only [if_neg c_11] at hQ
        refine ev_iload_n (pc := 14) dX11_sheet_14 rfl ?_
        refine ev_sipush (pc := 15) (v := 270) dX11_sheet_15 (by decide) ?_
        have hT_18 := hb
        refine ev_icmp_le (pc := 18) (tgt := 23) dX11_sheet_18 (by decide) (fun c_18 => ?_) (fun c_18 => ?_)
        · have hb := hT_18 c_18
          try simp only [if_pos c_18] at hQ
          refine ev_aload_n (pc := 23) dX11_sheet_23 rfl ?_
          refine tv_getr (pc := 24) (d := 16) dX11_sheet_24 fl_X11_38 (by decide) rfl rfl ?_
          refine ev_iload_n (pc := 27) dX11_sheet_27 rfl ?_
          refine ev_iload_n (pc := 28) dX11_sheet_28 rfl ?_
          refine ev_Vv (pc := 29) dX11_sheet_29 lk_X11_129 cd_X8_renew ar_X8_renew ⟨by decide, rfl, rfl⟩ (cv_X8_renew_16 g n I A J t x1 x2 hb) (show 16 < 120 by decide) rfl rfl rfl rfl (Nat.le_of_ble_eq_true rfl) ⟨by decide, by decide⟩ ?_
          refine ev_iconst (pc := 32) (v := 1) dX11_sheet_32 (by decide) ?_
          exact ev_zret (pc := 33) dX11_sheet_33 rfl rfl (by decide) (by decide) (hQ _ _ ⟨rfl, rfl⟩)
        · try simp only [if_neg c_18] at hQ
          refine ev_iconst (pc := 21) (v := 0) dX11_sheet_21 (by decide) ?_
          exact ev_zret (pc := 22) dX11_sheet_22 rfl rfl (by decide) (by decide) (hQ _ _ ⟨rfl, rfl⟩)

theorem z1_X11_sheet_0 (n : Nat) (I : Nat → Nat → Int32) (A : Nat → Nat → Int32) (J : Nat → Nat → Int64) (t : Bool × Bool) (x1 : Int32) (x2 : Int32) : px_X11_sheet_0 n I A J t x1 x2 = 0 ∨ px_X11_sheet_0 n I A J t x1 x2 = 1 := (cw_ite (Or.inl rfl) (cw_ite (Or.inl rfl) (cw_ite (Or.inl rfl) (cw_ite (Or.inr rfl) (Or.inl rfl)))))

def pb_X11_cell_0 (n : Nat) (I : Nat → Nat → Int32) (A : Nat → Nat → Int32) (J : Nat → Nat → Int64) (t : Bool × Bool) (x1 : Int32) (x2 : Int32) (x3 : Int32) : Prop := (¬ x1 < 0 → (¬ 4 ≤ x1 → pb_X8_has_16 n I A J t x1 x2 ∧ (¬ (px_X8_has_16 n I A J t x1 x2) = 0 → (¬ (px_X11_isNumber n I A J t x3) = 0 → pb_X8_put_16 n I A J t x1 x2 x3))))
def px_X11_cell_0 (n : Nat) (I : Nat → Nat → Int32) (A : Nat → Nat → Int32) (J : Nat → Nat → Int64) (t : Bool × Bool) (x1 : Int32) (x2 : Int32) (x3 : Int32) : Int32 := (if x1 < 0 then 0 else (if 4 ≤ x1 then 0 else (if (px_X8_has_16 n I A J t x1 x2) = 0 then 0 else (if (px_X11_isNumber n I A J t x3) = 0 then 0 else 1))))
def pA_X11_cell_0 (n : Nat) (I : Nat → Nat → Int32) (A : Nat → Nat → Int32) (J : Nat → Nat → Int64) (t : Bool × Bool) (x1 : Int32) (x2 : Int32) (x3 : Int32) : Nat → Nat → Int32 := (if x1 < 0 then A else (if 4 ≤ x1 then A else (if (px_X8_has_16 n I A J t x1 x2) = 0 then A else (if (px_X11_isNumber n I A J t x3) = 0 then A else (pA_X8_put_16 n I A J t x1 x2 x3)))))
set_option maxRecDepth 100000 in
set_option maxHeartbeats 4000000 in
theorem cv_X11_cell_0 (g : cw_G) (n : Nat) (I : Nat → Nat → Int32) (A : Nat → Nat → Int32) (J : Nat → Nat → Int64) (t : Bool × Bool) (x1 : Int32) (x2 : Int32) (x3 : Int32) (hb : pb_X11_cell_0 n I A J t x1 x2 x3) : Cd g mX11_cell [(.ref (cw_z g + 0)), (.int x1), (.int x2), (.int x3)] (hp g I A J t) (some (.int (px_X11_cell_0 n I A J t x1 x2 x3))) (hp g I (pA_X11_cell_0 n I A J t x1 x2 x3) J t) := by
  unfold pb_X11_cell_0 at hb
  unfold px_X11_cell_0 pA_X11_cell_0
  refine Cd.of rfl (Nat.le_of_ble_eq_true rfl) (ev_gen (fun Q hQ => ?_))
  refine ev_iload_n (pc := 0) dX11_cell_0 rfl ?_
  have hF_1 := hb
  refine ev_if_lt (pc := 1) (tgt := 28) dX11_cell_1 (by decide) (fun c_1 => ?_) (fun c_1 => ?_)
  · try simp only [if_pos c_1] at hQ
    refine ev_iconst (pc := 28) (v := 0) dX11_cell_28 (by decide) ?_
    exact ev_zret (pc := 29) dX11_cell_29 rfl rfl (by decide) (by decide) (hQ _ _ ⟨rfl, rfl⟩)
  · have hb := hF_1 c_1
    try simp only [if_neg c_1] at hQ
    refine ev_iload_n (pc := 4) dX11_cell_4 rfl ?_
    refine ev_iconst (pc := 5) (v := 4) dX11_cell_5 (by decide) ?_
    have hF_6 := hb
    refine ev_icmp_ge (pc := 6) (tgt := 28) dX11_cell_6 (by decide) (fun c_6 => ?_) (fun c_6 => ?_)
    · try simp only [if_pos c_6] at hQ
      refine ev_iconst (pc := 28) (v := 0) dX11_cell_28 (by decide) ?_
      exact ev_zret (pc := 29) dX11_cell_29 rfl rfl (by decide) (by decide) (hQ _ _ ⟨rfl, rfl⟩)
    · have hb := hF_6 c_6
      try simp only [if_neg c_6] at hQ
      refine ev_aload_n (pc := 9) dX11_cell_9 rfl ?_
      refine tv_getr (pc := 10) (d := 16) dX11_cell_10 fl_X11_38 (by decide) rfl rfl ?_
      refine ev_iload_n (pc := 13) dX11_cell_13 rfl ?_
      refine ev_iload_n (pc := 14) dX11_cell_14 rfl ?_
      refine ev_Vi (pc := 15) dX11_cell_15 lk_X11_133 cd_X8_has ar_X8_has ⟨by decide, rfl, rfl⟩ (cv_X8_has_16 g n I A J t x1 x2 hb.1) (show 16 < 120 by decide) rfl rfl rfl rfl (Nat.le_of_ble_eq_true rfl) ⟨by decide, by decide⟩ ?_
      replace hb := hb.2
      have hF_18 := hb
      refine ev_if_eq (pc := 18) (tgt := 28) dX11_cell_18 (by decide) (fun c_18 => ?_) (fun c_18 => ?_)
      · try simp only [if_pos c_18] at hQ
        refine ev_iconst (pc := 28) (v := 0) dX11_cell_28 (by decide) ?_
        exact ev_zret (pc := 29) dX11_cell_29 rfl rfl (by decide) (by decide) (hQ _ _ ⟨rfl, rfl⟩)
      · have hb := hF_18 c_18
        try simp only [if_neg c_18] at hQ
        refine ev_iload_n (pc := 21) dX11_cell_21 rfl ?_
        refine ev_Si (pc := 22) dX11_cell_22 lk_X11_135 cd_X11_isNumber ar_X11_isNumber ⟨by decide, rfl, rfl⟩ (cv_X11_isNumber g n I A J t x3) rfl rfl (Nat.le_of_ble_eq_true rfl) ⟨by decide, by decide⟩ ?_
        have hT_25 := hb
        refine ev_if_ne (pc := 25) (tgt := 30) dX11_cell_25 (by decide) (fun c_25 => ?_) (fun c_25 => ?_)
        · have hb := hT_25 c_25
          try simp only [if_neg c_25] at hQ
          refine ev_aload_n (pc := 30) dX11_cell_30 rfl ?_
          refine tv_getr (pc := 31) (d := 16) dX11_cell_31 fl_X11_38 (by decide) rfl rfl ?_
          refine ev_iload_n (pc := 34) dX11_cell_34 rfl ?_
          refine ev_iload_n (pc := 35) dX11_cell_35 rfl ?_
          refine ev_iload_n (pc := 36) dX11_cell_36 rfl ?_
          refine ev_Vv (pc := 37) dX11_cell_37 lk_X11_138 cd_X8_put ar_X8_put ⟨by decide, rfl, rfl⟩ (cv_X8_put_16 g n I A J t x1 x2 x3 hb) (show 16 < 120 by decide) rfl rfl rfl rfl (Nat.le_of_ble_eq_true rfl) ⟨by decide, by decide⟩ ?_
          refine ev_iconst (pc := 40) (v := 1) dX11_cell_40 (by decide) ?_
          exact ev_zret (pc := 41) dX11_cell_41 rfl rfl (by decide) (by decide) (hQ _ _ ⟨rfl, rfl⟩)
        · try simp only [if_pos c_25] at hQ
          refine ev_iconst (pc := 28) (v := 0) dX11_cell_28 (by decide) ?_
          exact ev_zret (pc := 29) dX11_cell_29 rfl rfl (by decide) (by decide) (hQ _ _ ⟨rfl, rfl⟩)

theorem z1_X11_cell_0 (n : Nat) (I : Nat → Nat → Int32) (A : Nat → Nat → Int32) (J : Nat → Nat → Int64) (t : Bool × Bool) (x1 : Int32) (x2 : Int32) (x3 : Int32) : px_X11_cell_0 n I A J t x1 x2 x3 = 0 ∨ px_X11_cell_0 n I A J t x1 x2 x3 = 1 := (cw_ite (Or.inl rfl) (cw_ite (Or.inl rfl) (cw_ite (Or.inl rfl) (cw_ite (Or.inl rfl) (Or.inr rfl)))))

def qI19_X11_clock_0 (n : Nat) (I : Nat → Nat → Int32) (A : Nat → Nat → Int32) (J : Nat → Nat → Int64) (t : Bool × Bool) (x1 : Int32) : Nat → Nat → Int32 := cw_u I 0 14 x1
def px_X11_clock_0 (n : Nat) (I : Nat → Nat → Int32) (A : Nat → Nat → Int32) (J : Nat → Nat → Int64) (t : Bool × Bool) (x1 : Int32) : Int32 := (if x1 < (I 0 14) then 0 else (if x1 < 3600 then 1 else 0))
def pI_X11_clock_0 (n : Nat) (I : Nat → Nat → Int32) (A : Nat → Nat → Int32) (J : Nat → Nat → Int64) (t : Bool × Bool) (x1 : Int32) : Nat → Nat → Int32 := (if x1 < (I 0 14) then I else (if x1 < 3600 then (qI19_X11_clock_0 n I A J t x1) else I))
set_option maxRecDepth 100000 in
set_option maxHeartbeats 4000000 in
theorem cv_X11_clock_0 (g : cw_G) (n : Nat) (I : Nat → Nat → Int32) (A : Nat → Nat → Int32) (J : Nat → Nat → Int64) (t : Bool × Bool) (x1 : Int32) : Cd g mX11_clock [(.ref (cw_z g + 0)), (.int x1)] (hp g I A J t) (some (.int (px_X11_clock_0 n I A J t x1))) (hp g (pI_X11_clock_0 n I A J t x1) A J t) := by
  unfold px_X11_clock_0 pI_X11_clock_0
  refine Cd.of rfl (Nat.le_of_ble_eq_true rfl) (ev_gen (fun Q hQ => ?_))
  refine ev_iload_n (pc := 0) dX11_clock_0 rfl ?_
  refine ev_aload_n (pc := 1) dX11_clock_1 rfl ?_
  refine tv_geti (pc := 2) dX11_clock_2 fl_X11_96 (by decide) rfl rfl ?_
  refine ev_icmp_lt (pc := 5) (tgt := 15) dX11_clock_5 (by decide) (fun c_5 => ?_) (fun c_5 => ?_)
  · try simp only [if_pos c_5] at hQ
    refine ev_iconst (pc := 15) (v := 0) dX11_clock_15 (by decide) ?_
    exact ev_zret (pc := 16) dX11_clock_16 rfl rfl (by decide) (by decide) (hQ _ _ ⟨rfl, rfl⟩)
  · try simp only [if_neg c_5] at hQ
    refine ev_iload_n (pc := 8) dX11_clock_8 rfl ?_
    refine ev_sipush (pc := 9) (v := 3600) dX11_clock_9 (by decide) ?_
    refine ev_icmp_lt (pc := 12) (tgt := 17) dX11_clock_12 (by decide) (fun c_12 => ?_) (fun c_12 => ?_)
    · try simp only [if_pos c_12] at hQ
      refine ev_aload_n (pc := 17) dX11_clock_17 rfl ?_
      refine ev_iload_n (pc := 18) dX11_clock_18 rfl ?_
      refine tw_puti (pc := 19) (I2 := (qI19_X11_clock_0 n I A J t x1)) dX11_clock_19 fp_X11_96 (by decide) rfl rfl rfl ?_
      refine ev_iconst (pc := 22) (v := 1) dX11_clock_22 (by decide) ?_
      exact ev_zret (pc := 23) dX11_clock_23 rfl rfl (by decide) (by decide) (hQ _ _ ⟨rfl, rfl⟩)
    · try simp only [if_neg c_12] at hQ
      refine ev_iconst (pc := 15) (v := 0) dX11_clock_15 (by decide) ?_
      exact ev_zret (pc := 16) dX11_clock_16 rfl rfl (by decide) (by decide) (hQ _ _ ⟨rfl, rfl⟩)

theorem z1_X11_clock_0 (n : Nat) (I : Nat → Nat → Int32) (A : Nat → Nat → Int32) (J : Nat → Nat → Int64) (t : Bool × Bool) (x1 : Int32) : px_X11_clock_0 n I A J t x1 = 0 ∨ px_X11_clock_0 n I A J t x1 = 1 := (cw_ite (Or.inl rfl) (cw_ite (Or.inr rfl) (Or.inl rfl)))

def qs0m26_X11_isPath_0 (n : Nat) (I : Nat → Nat → Int32) (A : Nat → Nat → Int32) (J : Nat → Nat → Int64) (t : Bool × Bool) (x1 : Int32) (x2 : Int32) (x3 : Int32) : Int32 := if (px_X11_isBand n I A J t x3) = 0 then 0 else 1
def qs0m19_X11_isPath_0 (n : Nat) (I : Nat → Nat → Int32) (A : Nat → Nat → Int32) (J : Nat → Nat → Int64) (t : Bool × Bool) (x1 : Int32) (x2 : Int32) (x3 : Int32) : Int32 := if (px_X9_has_1 n I A J t x2) = 0 then 0 else (qs0m26_X11_isPath_0 n I A J t x1 x2 x3)
def qs0m8_X11_isPath_0 (n : Nat) (I : Nat → Nat → Int32) (A : Nat → Nat → Int32) (J : Nat → Nat → Int64) (t : Bool × Bool) (x1 : Int32) (x2 : Int32) (x3 : Int32) : Int32 := if (px_X9_has_5 n I A J t x1) = 0 then 0 else (qs0m19_X11_isPath_0 n I A J t x1 x2 x3)
def px_X11_isPath_0 (n : Nat) (I : Nat → Nat → Int32) (A : Nat → Nat → Int32) (J : Nat → Nat → Int64) (t : Bool × Bool) (x1 : Int32) (x2 : Int32) (x3 : Int32) : Int32 := (qs0m8_X11_isPath_0 n I A J t x1 x2 x3)
set_option maxRecDepth 100000 in
set_option maxHeartbeats 4000000 in
theorem cv_X11_isPath_0 (g : cw_G) (n : Nat) (I : Nat → Nat → Int32) (A : Nat → Nat → Int32) (J : Nat → Nat → Int64) (t : Bool × Bool) (x1 : Int32) (x2 : Int32) (x3 : Int32) : Cd g mX11_isPath [(.ref (cw_z g + 0)), (.int x1), (.int x2), (.int x3)] (hp g I A J t) (some (.int (px_X11_isPath_0 n I A J t x1 x2 x3))) (hp g I A J t) := by
  unfold px_X11_isPath_0
  refine Cd.of rfl (Nat.le_of_ble_eq_true rfl) (ev_gen (fun Q hQ => ?_))
  refine ev_aload_n (pc := 0) dX11_isPath_0 rfl ?_
  refine tv_getr (pc := 1) (d := 5) dX11_isPath_1 fl_X11_18 (by decide) rfl rfl ?_
  refine ev_iload_n (pc := 4) dX11_isPath_4 rfl ?_
  refine ev_Vi (pc := 5) dX11_isPath_5 lk_X11_117 cd_X9_has ar_X9_has ⟨by decide, rfl, rfl⟩ (cv_X9_has_5 g n I A J t x1) (show 5 < 120 by decide) rfl rfl rfl rfl (Nat.le_of_ble_eq_true rfl) ⟨by decide, by decide⟩ ?_
  refine ev_cut (pj := 34) (Lj := [some (.ref (cw_z g + 0)), some (.int x1), some (.int x2), some (.int x3)]) (stj := [(.int (qs0m8_X11_isPath_0 n I A J t x1 x2 x3))]) (σj := hp g I A J t) ?_ (fun hJ_8 => ?_)
  rotate_left
  · refine ev_if_eq (pc := 8) (tgt := 33) dX11_isPath_8 (by decide) (fun c_8 => ?_) (fun c_8 => ?_)
    · refine ev_iconst (pc := 33) (v := 0) dX11_isPath_33 (by decide) ?_
      simp only [qs0m8_X11_isPath_0, if_pos c_8] at hJ_8
      exact ev_loc hJ_8 cw_le0
    · refine ev_aload_n (pc := 11) dX11_isPath_11 rfl ?_
      refine tv_getr (pc := 12) (d := 1) dX11_isPath_12 fl_X11_14 (by decide) rfl rfl ?_
      refine ev_iload_n (pc := 15) dX11_isPath_15 rfl ?_
      refine ev_Vi (pc := 16) dX11_isPath_16 lk_X11_117 cd_X9_has ar_X9_has ⟨by decide, rfl, rfl⟩ (cv_X9_has_1 g n I A J t x2) (show 1 < 120 by decide) rfl rfl rfl rfl (Nat.le_of_ble_eq_true rfl) ⟨by decide, by decide⟩ ?_
      refine ev_cut (pj := 34) (Lj := [some (.ref (cw_z g + 0)), some (.int x1), some (.int x2), some (.int x3)]) (stj := [(.int (qs0m19_X11_isPath_0 n I A J t x1 x2 x3))]) (σj := hp g I A J t) ?_ (fun hJ_19 => ?_)
      rotate_left
      · refine ev_if_eq (pc := 19) (tgt := 33) dX11_isPath_19 (by decide) (fun c_19 => ?_) (fun c_19 => ?_)
        · refine ev_iconst (pc := 33) (v := 0) dX11_isPath_33 (by decide) ?_
          simp only [qs0m19_X11_isPath_0, if_pos c_19] at hJ_19
          exact ev_loc hJ_19 cw_le0
        · refine ev_iload_n (pc := 22) dX11_isPath_22 rfl ?_
          refine ev_Si (pc := 23) dX11_isPath_23 lk_X11_153 cd_X11_isBand ar_X11_isBand ⟨by decide, rfl, rfl⟩ (cv_X11_isBand g n I A J t x3) rfl rfl (Nat.le_of_ble_eq_true rfl) ⟨by decide, by decide⟩ ?_
          refine ev_cut (pj := 34) (Lj := [some (.ref (cw_z g + 0)), some (.int x1), some (.int x2), some (.int x3)]) (stj := [(.int (qs0m26_X11_isPath_0 n I A J t x1 x2 x3))]) (σj := hp g I A J t) ?_ (fun hJ_26 => ?_)
          rotate_left
          · refine ev_if_eq (pc := 26) (tgt := 33) dX11_isPath_26 (by decide) (fun c_26 => ?_) (fun c_26 => ?_)
            · refine ev_iconst (pc := 33) (v := 0) dX11_isPath_33 (by decide) ?_
              simp only [qs0m26_X11_isPath_0, if_pos c_26] at hJ_26
              exact ev_loc hJ_26 cw_le0
            · refine ev_iconst (pc := 29) (v := 1) dX11_isPath_29 (by decide) ?_
              refine ev_goto (pc := 30) (tgt := 34) dX11_isPath_30 (by decide) ?_
              simp only [qs0m26_X11_isPath_0, if_neg c_26] at hJ_26
              exact ev_loc hJ_26 cw_le0
          simp only [qs0m19_X11_isPath_0, if_neg c_19] at hJ_19
          exact ev_loc hJ_19 cw_le0
      simp only [qs0m8_X11_isPath_0, if_neg c_8] at hJ_8
      exact ev_loc hJ_8 cw_le0
  exact ev_zret (pc := 34) dX11_isPath_34 rfl (cw_nz (cw_ite (Or.inl rfl) (cw_ite (Or.inl rfl) (cw_ite (Or.inl rfl) (Or.inr rfl))))) (by decide) (by decide) (hQ _ _ ⟨rfl, rfl⟩)

theorem z1_X11_isPath_0 (n : Nat) (I : Nat → Nat → Int32) (A : Nat → Nat → Int32) (J : Nat → Nat → Int64) (t : Bool × Bool) (x1 : Int32) (x2 : Int32) (x3 : Int32) : px_X11_isPath_0 n I A J t x1 x2 x3 = 0 ∨ px_X11_isPath_0 n I A J t x1 x2 x3 = 1 := (cw_ite (Or.inl rfl) (cw_ite (Or.inl rfl) (cw_ite (Or.inl rfl) (Or.inr rfl))))

def pb_X11_report_0 (n : Nat) (I : Nat → Nat → Int32) (A : Nat → Nat → Int32) (J : Nat → Nat → Int64) (t : Bool × Bool) (x1 : Int32) (x2 : Int32) (x3 : Int32) (x4 : Int32) (x5 : Int32) : Prop := (¬ (px_X11_isPath_0 n I A J t x1 x2 x3) = 0 → (¬ (px_X11_isHour n I A J t x4) = 0 → (¬ (px_X11_isNumber n I A J t x5) = 0 → pb_X1_addReport_19 n I A J t x1 x2 x3 x4 x5 (I 0 14))))
def px_X11_report_0 (n : Nat) (I : Nat → Nat → Int32) (A : Nat → Nat → Int32) (J : Nat → Nat → Int64) (t : Bool × Bool) (x1 : Int32) (x2 : Int32) (x3 : Int32) (x4 : Int32) (x5 : Int32) : Int32 := (if (px_X11_isPath_0 n I A J t x1 x2 x3) = 0 then (-1) else (if (px_X11_isHour n I A J t x4) = 0 then (-1) else (if (px_X11_isNumber n I A J t x5) = 0 then (-1) else (px_X1_addReport_19 n I A J t x1 x2 x3 x4 x5 (I 0 14)))))
def pI_X11_report_0 (n : Nat) (I : Nat → Nat → Int32) (A : Nat → Nat → Int32) (J : Nat → Nat → Int64) (t : Bool × Bool) (x1 : Int32) (x2 : Int32) (x3 : Int32) (x4 : Int32) (x5 : Int32) : Nat → Nat → Int32 := (if (px_X11_isPath_0 n I A J t x1 x2 x3) = 0 then I else (if (px_X11_isHour n I A J t x4) = 0 then I else (if (px_X11_isNumber n I A J t x5) = 0 then I else (pI_X1_addReport_19 n I A J t x1 x2 x3 x4 x5 (I 0 14)))))
def pA_X11_report_0 (n : Nat) (I : Nat → Nat → Int32) (A : Nat → Nat → Int32) (J : Nat → Nat → Int64) (t : Bool × Bool) (x1 : Int32) (x2 : Int32) (x3 : Int32) (x4 : Int32) (x5 : Int32) : Nat → Nat → Int32 := (if (px_X11_isPath_0 n I A J t x1 x2 x3) = 0 then A else (if (px_X11_isHour n I A J t x4) = 0 then A else (if (px_X11_isNumber n I A J t x5) = 0 then A else (pA_X1_addReport_19 n I A J t x1 x2 x3 x4 x5 (I 0 14)))))
set_option maxRecDepth 100000 in
set_option maxHeartbeats 4000000 in
theorem cv_X11_report_0 (g : cw_G) (n : Nat) (I : Nat → Nat → Int32) (A : Nat → Nat → Int32) (J : Nat → Nat → Int64) (t : Bool × Bool) (x1 : Int32) (x2 : Int32) (x3 : Int32) (x4 : Int32) (x5 : Int32) (hb : pb_X11_report_0 n I A J t x1 x2 x3 x4 x5) : Cd g mX11_report [(.ref (cw_z g + 0)), (.int x1), (.int x2), (.int x3), (.int x4), (.int x5)] (hp g I A J t) (some (.int (px_X11_report_0 n I A J t x1 x2 x3 x4 x5))) (hp g (pI_X11_report_0 n I A J t x1 x2 x3 x4 x5) (pA_X11_report_0 n I A J t x1 x2 x3 x4 x5) J t) := by
  unfold pb_X11_report_0 at hb
  unfold px_X11_report_0 pI_X11_report_0 pA_X11_report_0
  refine Cd.of rfl (Nat.le_of_ble_eq_true rfl) (ev_gen (fun Q hQ => ?_))
  refine ev_aload_n (pc := 0) dX11_report_0 rfl ?_
  refine ev_iload_n (pc := 1) dX11_report_1 rfl ?_
  refine ev_iload_n (pc := 2) dX11_report_2 rfl ?_
  refine ev_iload_n (pc := 3) dX11_report_3 rfl ?_
  refine ev_Vi (pc := 4) dX11_report_4 lk_X11_142 cd_X11_isPath ar_X11_isPath ⟨by decide, rfl, rfl⟩ (cv_X11_isPath_0 g n I A J t x1 x2 x3) (show 0 < 120 by decide) rfl rfl rfl rfl (Nat.le_of_ble_eq_true rfl) ⟨by decide, by decide⟩ ?_
  have hF_7 := hb
  refine ev_if_eq (pc := 7) (tgt := 26) dX11_report_7 (by decide) (fun c_7 => ?_) (fun c_7 => ?_)
  · try simp only [if_pos c_7] at hQ
    refine ev_iconst (pc := 26) (v := (-1)) dX11_report_26 (by decide) ?_
    exact ev_iret (pc := 27) dX11_report_27 rfl (by decide) (by decide) (hQ _ _ ⟨rfl, rfl⟩)
  · have hb := hF_7 c_7
    try simp only [if_neg c_7] at hQ
    refine ev_iload (pc := 10) dX11_report_10 rfl ?_
    refine ev_Si (pc := 12) dX11_report_12 lk_X11_146 cd_X11_isHour ar_X11_isHour ⟨by decide, rfl, rfl⟩ (cv_X11_isHour g n I A J t x4) rfl rfl (Nat.le_of_ble_eq_true rfl) ⟨by decide, by decide⟩ ?_
    have hF_15 := hb
    refine ev_if_eq (pc := 15) (tgt := 26) dX11_report_15 (by decide) (fun c_15 => ?_) (fun c_15 => ?_)
    · try simp only [if_pos c_15] at hQ
      refine ev_iconst (pc := 26) (v := (-1)) dX11_report_26 (by decide) ?_
      exact ev_iret (pc := 27) dX11_report_27 rfl (by decide) (by decide) (hQ _ _ ⟨rfl, rfl⟩)
    · have hb := hF_15 c_15
      try simp only [if_neg c_15] at hQ
      refine ev_iload (pc := 18) dX11_report_18 rfl ?_
      refine ev_Si (pc := 20) dX11_report_20 lk_X11_135 cd_X11_isNumber ar_X11_isNumber ⟨by decide, rfl, rfl⟩ (cv_X11_isNumber g n I A J t x5) rfl rfl (Nat.le_of_ble_eq_true rfl) ⟨by decide, by decide⟩ ?_
      have hT_23 := hb
      refine ev_if_ne (pc := 23) (tgt := 28) dX11_report_23 (by decide) (fun c_23 => ?_) (fun c_23 => ?_)
      · have hb := hT_23 c_23
        try simp only [if_neg c_23] at hQ
        refine ev_aload_n (pc := 28) dX11_report_28 rfl ?_
        refine tv_getr (pc := 29) (d := 19) dX11_report_29 fl_X11_45 (by decide) rfl rfl ?_
        refine ev_iload_n (pc := 32) dX11_report_32 rfl ?_
        refine ev_iload_n (pc := 33) dX11_report_33 rfl ?_
        refine ev_iload_n (pc := 34) dX11_report_34 rfl ?_
        refine ev_iload (pc := 35) dX11_report_35 rfl ?_
        refine ev_iload (pc := 37) dX11_report_37 rfl ?_
        refine ev_aload_n (pc := 39) dX11_report_39 rfl ?_
        refine tv_geti (pc := 40) dX11_report_40 fl_X11_96 (by decide) rfl rfl ?_
        refine ev_Vi (pc := 43) dX11_report_43 lk_X11_149 cd_X1_addReport ar_X1_addReport ⟨by decide, rfl, rfl⟩ (cv_X1_addReport_19 g n I A J t x1 x2 x3 x4 x5 (I 0 14) hb) (show 19 < 120 by decide) rfl rfl rfl rfl (Nat.le_of_ble_eq_true rfl) ⟨by decide, by decide⟩ ?_
        exact ev_iret (pc := 46) dX11_report_46 rfl (by decide) (by decide) (hQ _ _ ⟨rfl, rfl⟩)
      · try simp only [if_pos c_23] at hQ
        refine ev_iconst (pc := 26) (v := (-1)) dX11_report_26 (by decide) ?_
        exact ev_iret (pc := 27) dX11_report_27 rfl (by decide) (by decide) (hQ _ _ ⟨rfl, rfl⟩)

def pb_X11_notice_0 (n : Nat) (I : Nat → Nat → Int32) (A : Nat → Nat → Int32) (J : Nat → Nat → Int64) (t : Bool × Bool) (x1 : Int32) (x2 : Int32) (x3 : Int32) (x4 : Int32) (x5 : Int32) : Prop := (¬ (px_X11_isBand n I A J t x1) = 0 → (¬ (px_X11_isSpan n I A J t x2 x3) = 0 → (¬ (px_X9_has_1 n I A J t x4) = 0 → (¬ (px_X11_isDay n I A J t x5) = 0 → pb_X1_addNotice_19 n I A J t x1 x2 x3 x4 x5))))
def px_X11_notice_0 (n : Nat) (I : Nat → Nat → Int32) (A : Nat → Nat → Int32) (J : Nat → Nat → Int64) (t : Bool × Bool) (x1 : Int32) (x2 : Int32) (x3 : Int32) (x4 : Int32) (x5 : Int32) : Int32 := (if (px_X11_isBand n I A J t x1) = 0 then (-1) else (if (px_X11_isSpan n I A J t x2 x3) = 0 then (-1) else (if (px_X9_has_1 n I A J t x4) = 0 then (-1) else (if (px_X11_isDay n I A J t x5) = 0 then (-1) else (px_X1_addNotice_19 n I A J t x1 x2 x3 x4 x5)))))
def pI_X11_notice_0 (n : Nat) (I : Nat → Nat → Int32) (A : Nat → Nat → Int32) (J : Nat → Nat → Int64) (t : Bool × Bool) (x1 : Int32) (x2 : Int32) (x3 : Int32) (x4 : Int32) (x5 : Int32) : Nat → Nat → Int32 := (if (px_X11_isBand n I A J t x1) = 0 then I else (if (px_X11_isSpan n I A J t x2 x3) = 0 then I else (if (px_X9_has_1 n I A J t x4) = 0 then I else (if (px_X11_isDay n I A J t x5) = 0 then I else (pI_X1_addNotice_19 n I A J t x1 x2 x3 x4 x5)))))
def pA_X11_notice_0 (n : Nat) (I : Nat → Nat → Int32) (A : Nat → Nat → Int32) (J : Nat → Nat → Int64) (t : Bool × Bool) (x1 : Int32) (x2 : Int32) (x3 : Int32) (x4 : Int32) (x5 : Int32) : Nat → Nat → Int32 := (if (px_X11_isBand n I A J t x1) = 0 then A else (if (px_X11_isSpan n I A J t x2 x3) = 0 then A else (if (px_X9_has_1 n I A J t x4) = 0 then A else (if (px_X11_isDay n I A J t x5) = 0 then A else (pA_X1_addNotice_19 n I A J t x1 x2 x3 x4 x5)))))
set_option maxRecDepth 100000 in
set_option maxHeartbeats 4000000 in
theorem cv_X11_notice_0 (g : cw_G) (n : Nat) (I : Nat → Nat → Int32) (A : Nat → Nat → Int32) (J : Nat → Nat → Int64) (t : Bool × Bool) (x1 : Int32) (x2 : Int32) (x3 : Int32) (x4 : Int32) (x5 : Int32) (hb : pb_X11_notice_0 n I A J t x1 x2 x3 x4 x5) : Cd g mX11_notice [(.ref (cw_z g + 0)), (.int x1), (.int x2), (.int x3), (.int x4), (.int x5)] (hp g I A J t) (some (.int (px_X11_notice_0 n I A J t x1 x2 x3 x4 x5))) (hp g (pI_X11_notice_0 n I A J t x1 x2 x3 x4 x5) (pA_X11_notice_0 n I A J t x1 x2 x3 x4 x5) J t) := by
  unfold pb_X11_notice_0 at hb
  unfold px_X11_notice_0 pI_X11_notice_0 pA_X11_notice_0
  refine Cd.of rfl (Nat.le_of_ble_eq_true rfl) (ev_gen (fun Q hQ => ?_))
  refine ev_iload_n (pc := 0) dX11_notice_0 rfl ?_
  refine ev_Si (pc := 1) dX11_notice_1 lk_X11_153 cd_X11_isBand ar_X11_isBand ⟨by decide, rfl, rfl⟩ (cv_X11_isBand g n I A J t x1) rfl rfl (Nat.le_of_ble_eq_true rfl) ⟨by decide, by decide⟩ ?_
  have hF_4 := hb
  refine ev_if_eq (pc := 4) (tgt := 35) dX11_notice_4 (by decide) (fun c_4 => ?_) (fun c_4 => ?_)
  · try simp only [if_pos c_4] at hQ
    refine ev_iconst (pc := 35) (v := (-1)) dX11_notice_35 (by decide) ?_
    exact ev_iret (pc := 36) dX11_notice_36 rfl (by decide) (by decide) (hQ _ _ ⟨rfl, rfl⟩)
  · have hb := hF_4 c_4
    try simp only [if_neg c_4] at hQ
    refine ev_iload_n (pc := 7) dX11_notice_7 rfl ?_
    refine ev_iload_n (pc := 8) dX11_notice_8 rfl ?_
    refine ev_Si (pc := 9) dX11_notice_9 lk_X11_124 cd_X11_isSpan ar_X11_isSpan ⟨by decide, rfl, rfl⟩ (cv_X11_isSpan g n I A J t x2 x3) rfl rfl (Nat.le_of_ble_eq_true rfl) ⟨by decide, by decide⟩ ?_
    have hF_12 := hb
    refine ev_if_eq (pc := 12) (tgt := 35) dX11_notice_12 (by decide) (fun c_12 => ?_) (fun c_12 => ?_)
    · try simp only [if_pos c_12] at hQ
      refine ev_iconst (pc := 35) (v := (-1)) dX11_notice_35 (by decide) ?_
      exact ev_iret (pc := 36) dX11_notice_36 rfl (by decide) (by decide) (hQ _ _ ⟨rfl, rfl⟩)
    · have hb := hF_12 c_12
      try simp only [if_neg c_12] at hQ
      refine ev_aload_n (pc := 15) dX11_notice_15 rfl ?_
      refine tv_getr (pc := 16) (d := 1) dX11_notice_16 fl_X11_14 (by decide) rfl rfl ?_
      refine ev_iload (pc := 19) dX11_notice_19 rfl ?_
      refine ev_Vi (pc := 21) dX11_notice_21 lk_X11_117 cd_X9_has ar_X9_has ⟨by decide, rfl, rfl⟩ (cv_X9_has_1 g n I A J t x4) (show 1 < 120 by decide) rfl rfl rfl rfl (Nat.le_of_ble_eq_true rfl) ⟨by decide, by decide⟩ ?_
      have hF_24 := hb
      refine ev_if_eq (pc := 24) (tgt := 35) dX11_notice_24 (by decide) (fun c_24 => ?_) (fun c_24 => ?_)
      · try simp only [if_pos c_24] at hQ
        refine ev_iconst (pc := 35) (v := (-1)) dX11_notice_35 (by decide) ?_
        exact ev_iret (pc := 36) dX11_notice_36 rfl (by decide) (by decide) (hQ _ _ ⟨rfl, rfl⟩)
      · have hb := hF_24 c_24
        try simp only [if_neg c_24] at hQ
        refine ev_iload (pc := 27) dX11_notice_27 rfl ?_
        refine ev_Si (pc := 29) dX11_notice_29 lk_X11_156 cd_X11_isDay ar_X11_isDay ⟨by decide, rfl, rfl⟩ (cv_X11_isDay g n I A J t x5) rfl rfl (Nat.le_of_ble_eq_true rfl) ⟨by decide, by decide⟩ ?_
        have hT_32 := hb
        refine ev_if_ne (pc := 32) (tgt := 37) dX11_notice_32 (by decide) (fun c_32 => ?_) (fun c_32 => ?_)
        · have hb := hT_32 c_32
          try simp only [if_neg c_32] at hQ
          refine ev_aload_n (pc := 37) dX11_notice_37 rfl ?_
          refine tv_getr (pc := 38) (d := 19) dX11_notice_38 fl_X11_45 (by decide) rfl rfl ?_
          refine ev_iload_n (pc := 41) dX11_notice_41 rfl ?_
          refine ev_iload_n (pc := 42) dX11_notice_42 rfl ?_
          refine ev_iload_n (pc := 43) dX11_notice_43 rfl ?_
          refine ev_iload (pc := 44) dX11_notice_44 rfl ?_
          refine ev_iload (pc := 46) dX11_notice_46 rfl ?_
          refine ev_Vi (pc := 48) dX11_notice_48 lk_X11_159 cd_X1_addNotice ar_X1_addNotice ⟨by decide, rfl, rfl⟩ (cv_X1_addNotice_19 g n I A J t x1 x2 x3 x4 x5 hb) (show 19 < 120 by decide) rfl rfl rfl rfl (Nat.le_of_ble_eq_true rfl) ⟨by decide, by decide⟩ ?_
          exact ev_iret (pc := 51) dX11_notice_51 rfl (by decide) (by decide) (hQ _ _ ⟨rfl, rfl⟩)
        · try simp only [if_pos c_32] at hQ
          refine ev_iconst (pc := 35) (v := (-1)) dX11_notice_35 (by decide) ?_
          exact ev_iret (pc := 36) dX11_notice_36 rfl (by decide) (by decide) (hQ _ _ ⟨rfl, rfl⟩)

def pb_X11_way_0 (n : Nat) (I : Nat → Nat → Int32) (A : Nat → Nat → Int32) (J : Nat → Nat → Int64) (t : Bool × Bool) (x1 : Int32) (x2 : Int32) (x3 : Int32) : Prop := (¬ (px_X9_has_5 n I A J t x1) = 0 → (¬ (px_X9_has_1 n I A J t x2) = 0 → (x3 = 0 → pb_X9_lengthTo_5_1 n I A J t x1 x2) ∧ (x3 = 1 → pb_X9_farTo_5_1 n I A J t x1 x2) ∧ (x3 = 2 → pb_X9_aimTo_5_1 n I A J t x1 x2) ∧ (x3 = 3 → pb_X9_kindTo_5_1 n I A J t x1 x2)))
def px_X11_way_0 (n : Nat) (I : Nat → Nat → Int32) (A : Nat → Nat → Int32) (J : Nat → Nat → Int64) (t : Bool × Bool) (x1 : Int32) (x2 : Int32) (x3 : Int32) : Int32 := (if (px_X9_has_5 n I A J t x1) = 0 then (-1) else (if (px_X9_has_1 n I A J t x2) = 0 then (-1) else (if x3 = 0 then (px_X9_lengthTo_5_1 n I A J t x1 x2) else (if x3 = 1 then (px_X9_farTo_5_1 n I A J t x1 x2) else (if x3 = 2 then (px_X9_aimTo_5_1 n I A J t x1 x2) else (if x3 = 3 then (px_X9_kindTo_5_1 n I A J t x1 x2) else (-1)))))))
set_option maxRecDepth 100000 in
set_option maxHeartbeats 4000000 in
theorem cv_X11_way_0 (g : cw_G) (n : Nat) (I : Nat → Nat → Int32) (A : Nat → Nat → Int32) (J : Nat → Nat → Int64) (t : Bool × Bool) (x1 : Int32) (x2 : Int32) (x3 : Int32) (hb : pb_X11_way_0 n I A J t x1 x2 x3) : Cd g mX11_way [(.ref (cw_z g + 0)), (.int x1), (.int x2), (.int x3)] (hp g I A J t) (some (.int (px_X11_way_0 n I A J t x1 x2 x3))) (hp g I A J t) := by
  unfold pb_X11_way_0 at hb
  unfold px_X11_way_0
  refine Cd.of rfl (Nat.le_of_ble_eq_true rfl) (ev_gen (fun Q hQ => ?_))
  refine ev_aload_n (pc := 0) dX11_way_0 rfl ?_
  refine tv_getr (pc := 1) (d := 5) dX11_way_1 fl_X11_18 (by decide) rfl rfl ?_
  refine ev_iload_n (pc := 4) dX11_way_4 rfl ?_
  refine ev_Vi (pc := 5) dX11_way_5 lk_X11_117 cd_X9_has ar_X9_has ⟨by decide, rfl, rfl⟩ (cv_X9_has_5 g n I A J t x1) (show 5 < 120 by decide) rfl rfl rfl rfl (Nat.le_of_ble_eq_true rfl) ⟨by decide, by decide⟩ ?_
  have hF_8 := hb
  refine ev_if_eq (pc := 8) (tgt := 22) dX11_way_8 (by decide) (fun c_8 => ?_) (fun c_8 => ?_)
  · try simp only [if_pos c_8] at hQ
    refine ev_iconst (pc := 22) (v := (-1)) dX11_way_22 (by decide) ?_
    exact ev_iret (pc := 23) dX11_way_23 rfl (by decide) (by decide) (hQ _ _ ⟨rfl, rfl⟩)
  · have hb := hF_8 c_8
    try simp only [if_neg c_8] at hQ
    refine ev_aload_n (pc := 11) dX11_way_11 rfl ?_
    refine tv_getr (pc := 12) (d := 1) dX11_way_12 fl_X11_14 (by decide) rfl rfl ?_
    refine ev_iload_n (pc := 15) dX11_way_15 rfl ?_
    refine ev_Vi (pc := 16) dX11_way_16 lk_X11_117 cd_X9_has ar_X9_has ⟨by decide, rfl, rfl⟩ (cv_X9_has_1 g n I A J t x2) (show 1 < 120 by decide) rfl rfl rfl rfl (Nat.le_of_ble_eq_true rfl) ⟨by decide, by decide⟩ ?_
    have hT_19 := hb
    refine ev_if_ne (pc := 19) (tgt := 24) dX11_way_19 (by decide) (fun c_19 => ?_) (fun c_19 => ?_)
    · have hb := hT_19 c_19
      try simp only [if_neg c_19] at hQ
      refine ev_iload_n (pc := 24) dX11_way_24 rfl ?_
      obtain ⟨hS_0_25, hS_1_25, hS_2_25, hS_3_25⟩ := hb
      by_cases s_25_0 : x3 = 0
      · try simp only [if_pos s_25_0] at hQ
        have hb := hS_0_25 s_25_0
        refine ev_tableIn (pc := 25) (tgt := 56) (off := 31) dX11_way_25 (by rw [s_25_0]; decide) (by rw [s_25_0]; decide) (by rw [s_25_0]; decide) (by decide) ?_
        refine ev_aload_n (pc := 56) dX11_way_56 rfl ?_
        refine tv_getr (pc := 57) (d := 5) dX11_way_57 fl_X11_18 (by decide) rfl rfl ?_
        refine ev_iload_n (pc := 60) dX11_way_60 rfl ?_
        refine ev_aload_n (pc := 61) dX11_way_61 rfl ?_
        refine tv_getr (pc := 62) (d := 1) dX11_way_62 fl_X11_14 (by decide) rfl rfl ?_
        refine ev_iload_n (pc := 65) dX11_way_65 rfl ?_
        refine ev_Vi (pc := 66) dX11_way_66 lk_X11_163 cd_X9_lengthTo ar_X9_lengthTo ⟨by decide, rfl, rfl⟩ (cv_X9_lengthTo_5_1 g n I A J t x1 x2 hb) (show 5 < 120 by decide) rfl rfl rfl rfl (Nat.le_of_ble_eq_true rfl) ⟨by decide, by decide⟩ ?_
        exact ev_iret (pc := 69) dX11_way_69 rfl (by decide) (by decide) (hQ _ _ ⟨rfl, rfl⟩)
      try simp only [if_neg s_25_0] at hQ
      by_cases s_25_1 : x3 = 1
      · try simp only [if_pos s_25_1] at hQ
        have hb := hS_1_25 s_25_1
        refine ev_tableIn (pc := 25) (tgt := 70) (off := 45) dX11_way_25 (by rw [s_25_1]; decide) (by rw [s_25_1]; decide) (by rw [s_25_1]; decide) (by decide) ?_
        refine ev_aload_n (pc := 70) dX11_way_70 rfl ?_
        refine tv_getr (pc := 71) (d := 5) dX11_way_71 fl_X11_18 (by decide) rfl rfl ?_
        refine ev_iload_n (pc := 74) dX11_way_74 rfl ?_
        refine ev_aload_n (pc := 75) dX11_way_75 rfl ?_
        refine tv_getr (pc := 76) (d := 1) dX11_way_76 fl_X11_14 (by decide) rfl rfl ?_
        refine ev_iload_n (pc := 79) dX11_way_79 rfl ?_
        refine ev_Vi (pc := 80) dX11_way_80 lk_X11_167 cd_X9_farTo ar_X9_farTo ⟨by decide, rfl, rfl⟩ (cv_X9_farTo_5_1 g n I A J t x1 x2 hb) (show 5 < 120 by decide) rfl rfl rfl rfl (Nat.le_of_ble_eq_true rfl) ⟨by decide, by decide⟩ ?_
        exact ev_iret (pc := 83) dX11_way_83 rfl (by decide) (by decide) (hQ _ _ ⟨rfl, rfl⟩)
      try simp only [if_neg s_25_1] at hQ
      by_cases s_25_2 : x3 = 2
      · try simp only [if_pos s_25_2] at hQ
        have hb := hS_2_25 s_25_2
        refine ev_tableIn (pc := 25) (tgt := 84) (off := 59) dX11_way_25 (by rw [s_25_2]; decide) (by rw [s_25_2]; decide) (by rw [s_25_2]; decide) (by decide) ?_
        refine ev_aload_n (pc := 84) dX11_way_84 rfl ?_
        refine tv_getr (pc := 85) (d := 5) dX11_way_85 fl_X11_18 (by decide) rfl rfl ?_
        refine ev_iload_n (pc := 88) dX11_way_88 rfl ?_
        refine ev_aload_n (pc := 89) dX11_way_89 rfl ?_
        refine tv_getr (pc := 90) (d := 1) dX11_way_90 fl_X11_14 (by decide) rfl rfl ?_
        refine ev_iload_n (pc := 93) dX11_way_93 rfl ?_
        refine ev_Vi (pc := 94) dX11_way_94 lk_X11_170 cd_X9_aimTo ar_X9_aimTo ⟨by decide, rfl, rfl⟩ (cv_X9_aimTo_5_1 g n I A J t x1 x2 hb) (show 5 < 120 by decide) rfl rfl rfl rfl (Nat.le_of_ble_eq_true rfl) ⟨by decide, by decide⟩ ?_
        exact ev_iret (pc := 97) dX11_way_97 rfl (by decide) (by decide) (hQ _ _ ⟨rfl, rfl⟩)
      try simp only [if_neg s_25_2] at hQ
      by_cases s_25_3 : x3 = 3
      · try simp only [if_pos s_25_3] at hQ
        have hb := hS_3_25 s_25_3
        refine ev_tableIn (pc := 25) (tgt := 98) (off := 73) dX11_way_25 (by rw [s_25_3]; decide) (by rw [s_25_3]; decide) (by rw [s_25_3]; decide) (by decide) ?_
        refine ev_aload_n (pc := 98) dX11_way_98 rfl ?_
        refine tv_getr (pc := 99) (d := 5) dX11_way_99 fl_X11_18 (by decide) rfl rfl ?_
        refine ev_iload_n (pc := 102) dX11_way_102 rfl ?_
        refine ev_aload_n (pc := 103) dX11_way_103 rfl ?_
        refine tv_getr (pc := 104) (d := 1) dX11_way_104 fl_X11_14 (by decide) rfl rfl ?_
        refine ev_iload_n (pc := 107) dX11_way_107 rfl ?_
        refine ev_Vi (pc := 108) dX11_way_108 lk_X11_173 cd_X9_kindTo ar_X9_kindTo ⟨by decide, rfl, rfl⟩ (cv_X9_kindTo_5_1 g n I A J t x1 x2 hb) (show 5 < 120 by decide) rfl rfl rfl rfl (Nat.le_of_ble_eq_true rfl) ⟨by decide, by decide⟩ ?_
        exact ev_iret (pc := 111) dX11_way_111 rfl (by decide) (by decide) (hQ _ _ ⟨rfl, rfl⟩)
      try simp only [if_neg s_25_3] at hQ
      refine ev_tableOut (pc := 25) (tgt := 112) dX11_way_25 (by simp only [← Int32.toInt_inj, Int32.reduceToInt] at s_25_0 s_25_1 s_25_2 s_25_3; omega) (by decide) ?_
      refine ev_iconst (pc := 112) (v := (-1)) dX11_way_112 (by decide) ?_
      exact ev_iret (pc := 113) dX11_way_113 rfl (by decide) (by decide) (hQ _ _ ⟨rfl, rfl⟩)
    · try simp only [if_pos c_19] at hQ
      refine ev_iconst (pc := 22) (v := (-1)) dX11_way_22 (by decide) ?_
      exact ev_iret (pc := 23) dX11_way_23 rfl (by decide) (by decide) (hQ _ _ ⟨rfl, rfl⟩)

def pb_X11_sun_0 (n : Nat) (I : Nat → Nat → Int32) (A : Nat → Nat → Int32) (J : Nat → Nat → Int64) (t : Bool × Bool) (x1 : Int32) (x2 : Int32) (x3 : Int32) (x4 : Int32) : Prop := (x1 = 0 → (¬ (px_X9_has_1 n I A J t x2) = 0 → (¬ (px_X11_isDay n I A J t x3) = 0 → (¬ (px_X11_isHour n I A J t x4) = 0 → pb_X9_sunAt_1 n I A J t x2 x3 x4)))) ∧ (¬ x1 = 0 → (¬ (px_X9_has_5 n I A J t x2) = 0 → (¬ (px_X11_isDay n I A J t x3) = 0 → (¬ (px_X11_isHour n I A J t x4) = 0 → pb_X9_sunAt_5 n I A J t x2 x3 x4))))
def px_X11_sun_0 (n : Nat) (I : Nat → Nat → Int32) (A : Nat → Nat → Int32) (J : Nat → Nat → Int64) (t : Bool × Bool) (x1 : Int32) (x2 : Int32) (x3 : Int32) (x4 : Int32) : Int32 := (if x1 = 0 then (if (px_X9_has_1 n I A J t x2) = 0 then (-1) else (if (px_X11_isDay n I A J t x3) = 0 then (-1) else (if (px_X11_isHour n I A J t x4) = 0 then (-1) else (px_X9_sunAt_1 n I A J t x2 x3 x4)))) else (if (px_X9_has_5 n I A J t x2) = 0 then (-1) else (if (px_X11_isDay n I A J t x3) = 0 then (-1) else (if (px_X11_isHour n I A J t x4) = 0 then (-1) else (px_X9_sunAt_5 n I A J t x2 x3 x4)))))
set_option maxRecDepth 100000 in
set_option maxHeartbeats 4000000 in
theorem cv_X11_sun_0 (g : cw_G) (n : Nat) (I : Nat → Nat → Int32) (A : Nat → Nat → Int32) (J : Nat → Nat → Int64) (t : Bool × Bool) (x1 : Int32) (x2 : Int32) (x3 : Int32) (x4 : Int32) (hb : pb_X11_sun_0 n I A J t x1 x2 x3 x4) : Cd g mX11_sun [(.ref (cw_z g + 0)), (.int x1), (.int x2), (.int x3), (.int x4)] (hp g I A J t) (some (.int (px_X11_sun_0 n I A J t x1 x2 x3 x4))) (hp g I A J t) := by
  unfold pb_X11_sun_0 at hb
  unfold px_X11_sun_0
  refine Cd.of rfl (Nat.le_of_ble_eq_true rfl) (ev_gen (fun Q hQ => ?_))
  refine ev_iload_n (pc := 0) dX11_sun_0 rfl ?_
  obtain ⟨hT_1, hF_1⟩ := hb
  refine ev_if_eq (pc := 1) (tgt := 11) dX11_sun_1 (by decide) (fun c_1 => ?_) (fun c_1 => ?_)
  · have hb := hT_1 c_1
    try simp only [if_pos c_1] at hQ
    refine ev_aload_n (pc := 11) dX11_sun_11 rfl ?_
    refine tv_getr (pc := 12) (d := 1) dX11_sun_12 fl_X11_14 (by decide) rfl rfl ?_
    refine ev_astore_5 (pc := 15) dX11_sun_15 (by decide) rfl ?_
    refine ev_aload (pc := 17) dX11_sun_17 rfl ?_
    refine ev_iload_n (pc := 19) dX11_sun_19 rfl ?_
    refine ev_Vi (pc := 20) dX11_sun_20 lk_X11_117 cd_X9_has ar_X9_has ⟨by decide, rfl, rfl⟩ (cv_X9_has_1 g n I A J t x2) (show 1 < 120 by decide) rfl rfl rfl rfl (Nat.le_of_ble_eq_true rfl) ⟨by decide, by decide⟩ ?_
    have hF_23 := hb
    refine ev_if_eq (pc := 23) (tgt := 41) dX11_sun_23 (by decide) (fun c_23 => ?_) (fun c_23 => ?_)
    · try simp only [if_pos c_23] at hQ
      refine ev_iconst (pc := 41) (v := (-1)) dX11_sun_41 (by decide) ?_
      exact ev_iret (pc := 42) dX11_sun_42 rfl (by decide) (by decide) (hQ _ _ ⟨rfl, rfl⟩)
    · have hb := hF_23 c_23
      try simp only [if_neg c_23] at hQ
      refine ev_iload_n (pc := 26) dX11_sun_26 rfl ?_
      refine ev_Si (pc := 27) dX11_sun_27 lk_X11_156 cd_X11_isDay ar_X11_isDay ⟨by decide, rfl, rfl⟩ (cv_X11_isDay g n I A J t x3) rfl rfl (Nat.le_of_ble_eq_true rfl) ⟨by decide, by decide⟩ ?_
      have hF_30 := hb
      refine ev_if_eq (pc := 30) (tgt := 41) dX11_sun_30 (by decide) (fun c_30 => ?_) (fun c_30 => ?_)
      · try simp only [if_pos c_30] at hQ
        refine ev_iconst (pc := 41) (v := (-1)) dX11_sun_41 (by decide) ?_
        exact ev_iret (pc := 42) dX11_sun_42 rfl (by decide) (by decide) (hQ _ _ ⟨rfl, rfl⟩)
      · have hb := hF_30 c_30
        try simp only [if_neg c_30] at hQ
        refine ev_iload (pc := 33) dX11_sun_33 rfl ?_
        refine ev_Si (pc := 35) dX11_sun_35 lk_X11_146 cd_X11_isHour ar_X11_isHour ⟨by decide, rfl, rfl⟩ (cv_X11_isHour g n I A J t x4) rfl rfl (Nat.le_of_ble_eq_true rfl) ⟨by decide, by decide⟩ ?_
        have hT_38 := hb
        refine ev_if_ne (pc := 38) (tgt := 43) dX11_sun_38 (by decide) (fun c_38 => ?_) (fun c_38 => ?_)
        · have hb := hT_38 c_38
          try simp only [if_neg c_38] at hQ
          refine ev_aload (pc := 43) dX11_sun_43 rfl ?_
          refine ev_iload_n (pc := 45) dX11_sun_45 rfl ?_
          refine ev_iload_n (pc := 46) dX11_sun_46 rfl ?_
          refine ev_iload (pc := 47) dX11_sun_47 rfl ?_
          refine ev_Vi (pc := 49) dX11_sun_49 lk_X11_176 cd_X9_sunAt ar_X9_sunAt ⟨by decide, rfl, rfl⟩ (cv_X9_sunAt_1 g n I A J t x2 x3 x4 hb) (show 1 < 120 by decide) rfl rfl rfl rfl (Nat.le_of_ble_eq_true rfl) ⟨by decide, by decide⟩ ?_
          exact ev_iret (pc := 52) dX11_sun_52 rfl (by decide) (by decide) (hQ _ _ ⟨rfl, rfl⟩)
        · try simp only [if_pos c_38] at hQ
          refine ev_iconst (pc := 41) (v := (-1)) dX11_sun_41 (by decide) ?_
          exact ev_iret (pc := 42) dX11_sun_42 rfl (by decide) (by decide) (hQ _ _ ⟨rfl, rfl⟩)
  · have hb := hF_1 c_1
    try simp only [if_neg c_1] at hQ
    refine ev_aload_n (pc := 4) dX11_sun_4 rfl ?_
    refine tv_getr (pc := 5) (d := 5) dX11_sun_5 fl_X11_18 (by decide) rfl rfl ?_
    refine ev_goto (pc := 8) (tgt := 15) dX11_sun_8 (by decide) ?_
    refine ev_astore_5 (pc := 15) dX11_sun_15 (by decide) rfl ?_
    refine ev_aload (pc := 17) dX11_sun_17 rfl ?_
    refine ev_iload_n (pc := 19) dX11_sun_19 rfl ?_
    refine ev_Vi (pc := 20) dX11_sun_20 lk_X11_117 cd_X9_has ar_X9_has ⟨by decide, rfl, rfl⟩ (cv_X9_has_5 g n I A J t x2) (show 5 < 120 by decide) rfl rfl rfl rfl (Nat.le_of_ble_eq_true rfl) ⟨by decide, by decide⟩ ?_
    have hF_23 := hb
    refine ev_if_eq (pc := 23) (tgt := 41) dX11_sun_23 (by decide) (fun c_23 => ?_) (fun c_23 => ?_)
    · try simp only [if_pos c_23] at hQ
      refine ev_iconst (pc := 41) (v := (-1)) dX11_sun_41 (by decide) ?_
      exact ev_iret (pc := 42) dX11_sun_42 rfl (by decide) (by decide) (hQ _ _ ⟨rfl, rfl⟩)
    · have hb := hF_23 c_23
      try simp only [if_neg c_23] at hQ
      refine ev_iload_n (pc := 26) dX11_sun_26 rfl ?_
      refine ev_Si (pc := 27) dX11_sun_27 lk_X11_156 cd_X11_isDay ar_X11_isDay ⟨by decide, rfl, rfl⟩ (cv_X11_isDay g n I A J t x3) rfl rfl (Nat.le_of_ble_eq_true rfl) ⟨by decide, by decide⟩ ?_
      have hF_30 := hb
      refine ev_if_eq (pc := 30) (tgt := 41) dX11_sun_30 (by decide) (fun c_30 => ?_) (fun c_30 => ?_)
      · try simp only [if_pos c_30] at hQ
        refine ev_iconst (pc := 41) (v := (-1)) dX11_sun_41 (by decide) ?_
        exact ev_iret (pc := 42) dX11_sun_42 rfl (by decide) (by decide) (hQ _ _ ⟨rfl, rfl⟩)
      · have hb := hF_30 c_30
        try simp only [if_neg c_30] at hQ
        refine ev_iload (pc := 33) dX11_sun_33 rfl ?_
        refine ev_Si (pc := 35) dX11_sun_35 lk_X11_146 cd_X11_isHour ar_X11_isHour ⟨by decide, rfl, rfl⟩ (cv_X11_isHour g n I A J t x4) rfl rfl (Nat.le_of_ble_eq_true rfl) ⟨by decide, by decide⟩ ?_
        have hT_38 := hb
        refine ev_if_ne (pc := 38) (tgt := 43) dX11_sun_38 (by decide) (fun c_38 => ?_) (fun c_38 => ?_)
        · have hb := hT_38 c_38
          try simp only [if_neg c_38] at hQ
          refine ev_aload (pc := 43) dX11_sun_43 rfl ?_
          refine ev_iload_n (pc := 45) dX11_sun_45 rfl ?_
          refine ev_iload_n (pc := 46) dX11_sun_46 rfl ?_
          refine ev_iload (pc := 47) dX11_sun_47 rfl ?_
          refine ev_Vi (pc := 49) dX11_sun_49 lk_X11_176 cd_X9_sunAt ar_X9_sunAt ⟨by decide, rfl, rfl⟩ (cv_X9_sunAt_5 g n I A J t x2 x3 x4 hb) (show 5 < 120 by decide) rfl rfl rfl rfl (Nat.le_of_ble_eq_true rfl) ⟨by decide, by decide⟩ ?_
          exact ev_iret (pc := 52) dX11_sun_52 rfl (by decide) (by decide) (hQ _ _ ⟨rfl, rfl⟩)
        · try simp only [if_pos c_38] at hQ
          refine ev_iconst (pc := 41) (v := (-1)) dX11_sun_41 (by decide) ?_
          exact ev_iret (pc := 42) dX11_sun_42 rfl (by decide) (by decide) (hQ _ _ ⟨rfl, rfl⟩)

def q25_X11_firstCell_0 (n : Nat) (I : Nat → Nat → Int32) (A : Nat → Nat → Int32) (J : Nat → Nat → Int64) (t : Bool × Bool) (x1 : Int32) (x2 : Int32) (x3 : Int32) (x4 : Int32) : Int32 := (((px_X9_sunAt_5 n I A J t x1 x3 x4) * 3) + (px_X9_sunAt_1 n I A J t x2 x3 x4))
def pb_X11_firstCell_0 (n : Nat) (I : Nat → Nat → Int32) (A : Nat → Nat → Int32) (J : Nat → Nat → Int64) (t : Bool × Bool) (x1 : Int32) (x2 : Int32) (x3 : Int32) (x4 : Int32) : Prop := pb_X9_sunAt_5 n I A J t x1 x3 x4 ∧ pb_X9_sunAt_1 n I A J t x2 x3 x4 ∧ pb_X9_farTo_5_1 n I A J t x1 x2
def px_X11_firstCell_0 (n : Nat) (I : Nat → Nat → Int32) (A : Nat → Nat → Int32) (J : Nat → Nat → Int64) (t : Bool × Bool) (x1 : Int32) (x2 : Int32) (x3 : Int32) (x4 : Int32) : Int32 := ((((q25_X11_firstCell_0 n I A J t x1 x2 x3 x4) * 5) + (px_X9_farTo_5_1 n I A J t x1 x2)) * 6)
set_option maxRecDepth 100000 in
set_option maxHeartbeats 4000000 in
theorem cv_X11_firstCell_0 (g : cw_G) (n : Nat) (I : Nat → Nat → Int32) (A : Nat → Nat → Int32) (J : Nat → Nat → Int64) (t : Bool × Bool) (x1 : Int32) (x2 : Int32) (x3 : Int32) (x4 : Int32) (hb : pb_X11_firstCell_0 n I A J t x1 x2 x3 x4) : Cd g mX11_firstCell [(.ref (cw_z g + 0)), (.int x1), (.int x2), (.int x3), (.int x4)] (hp g I A J t) (some (.int (px_X11_firstCell_0 n I A J t x1 x2 x3 x4))) (hp g I A J t) := by
  unfold pb_X11_firstCell_0 at hb
  unfold px_X11_firstCell_0
  refine Cd.of rfl (Nat.le_of_ble_eq_true rfl) (ev_gen (fun Q hQ => ?_))
  refine ev_aload_n (pc := 0) dX11_firstCell_0 rfl ?_
  refine tv_getr (pc := 1) (d := 5) dX11_firstCell_1 fl_X11_18 (by decide) rfl rfl ?_
  refine ev_iload_n (pc := 4) dX11_firstCell_4 rfl ?_
  refine ev_iload_n (pc := 5) dX11_firstCell_5 rfl ?_
  refine ev_iload (pc := 6) dX11_firstCell_6 rfl ?_
  refine ev_Vi (pc := 8) dX11_firstCell_8 lk_X11_176 cd_X9_sunAt ar_X9_sunAt ⟨by decide, rfl, rfl⟩ (cv_X9_sunAt_5 g n I A J t x1 x3 x4 hb.1) (show 5 < 120 by decide) rfl rfl rfl rfl (Nat.le_of_ble_eq_true rfl) ⟨by decide, by decide⟩ ?_
  replace hb := hb.2
  refine ev_iconst (pc := 11) (v := 3) dX11_firstCell_11 (by decide) ?_
  refine ev_imul (pc := 12) dX11_firstCell_12 ?_
  refine ev_aload_n (pc := 13) dX11_firstCell_13 rfl ?_
  refine tv_getr (pc := 14) (d := 1) dX11_firstCell_14 fl_X11_14 (by decide) rfl rfl ?_
  refine ev_iload_n (pc := 17) dX11_firstCell_17 rfl ?_
  refine ev_iload_n (pc := 18) dX11_firstCell_18 rfl ?_
  refine ev_iload (pc := 19) dX11_firstCell_19 rfl ?_
  refine ev_Vi (pc := 21) dX11_firstCell_21 lk_X11_176 cd_X9_sunAt ar_X9_sunAt ⟨by decide, rfl, rfl⟩ (cv_X9_sunAt_1 g n I A J t x2 x3 x4 hb.1) (show 1 < 120 by decide) rfl rfl rfl rfl (Nat.le_of_ble_eq_true rfl) ⟨by decide, by decide⟩ ?_
  replace hb := hb.2
  refine ev_iadd (pc := 24) dX11_firstCell_24 ?_
  refine ev_is (y := (q25_X11_firstCell_0 n I A J t x1 x2 x3 x4)) rfl ?_
  refine ev_istore_5 (pc := 25) dX11_firstCell_25 (by decide) rfl ?_
  refine ev_iload (pc := 27) dX11_firstCell_27 rfl ?_
  refine ev_iconst (pc := 29) (v := 5) dX11_firstCell_29 (by decide) ?_
  refine ev_imul (pc := 30) dX11_firstCell_30 ?_
  refine ev_aload_n (pc := 31) dX11_firstCell_31 rfl ?_
  refine tv_getr (pc := 32) (d := 5) dX11_firstCell_32 fl_X11_18 (by decide) rfl rfl ?_
  refine ev_iload_n (pc := 35) dX11_firstCell_35 rfl ?_
  refine ev_aload_n (pc := 36) dX11_firstCell_36 rfl ?_
  refine tv_getr (pc := 37) (d := 1) dX11_firstCell_37 fl_X11_14 (by decide) rfl rfl ?_
  refine ev_iload_n (pc := 40) dX11_firstCell_40 rfl ?_
  refine ev_Vi (pc := 41) dX11_firstCell_41 lk_X11_167 cd_X9_farTo ar_X9_farTo ⟨by decide, rfl, rfl⟩ (cv_X9_farTo_5_1 g n I A J t x1 x2 hb) (show 5 < 120 by decide) rfl rfl rfl rfl (Nat.le_of_ble_eq_true rfl) ⟨by decide, by decide⟩ ?_
  refine ev_iadd (pc := 44) dX11_firstCell_44 ?_
  refine ev_bipush (pc := 45) (v := 6) dX11_firstCell_45 (by decide) ?_
  refine ev_imul (pc := 47) dX11_firstCell_47 ?_
  exact ev_iret (pc := 48) dX11_firstCell_48 rfl (by decide) (by decide) (hQ _ _ ⟨rfl, rfl⟩)

def q8_X11_learnReport_0 (n : Nat) (I : Nat → Nat → Int32) (A : Nat → Nat → Int32) (J : Nat → Nat → Int64) (t : Bool × Bool) (x1 : Int32) : Int32 := (px_X1_siteOf_19 n I A J t x1)
def q17_X11_learnReport_0 (n : Nat) (I : Nat → Nat → Int32) (A : Nat → Nat → Int32) (J : Nat → Nat → Int64) (t : Bool × Bool) (x1 : Int32) : Int32 := (px_X1_landOf_19 n I A J t x1)
def q26_X11_learnReport_0 (n : Nat) (I : Nat → Nat → Int32) (A : Nat → Nat → Int32) (J : Nat → Nat → Int64) (t : Bool × Bool) (x1 : Int32) : Int32 := (px_X1_bandOf_19 n I A J t x1)
def q36_X11_learnReport_0 (n : Nat) (I : Nat → Nat → Int32) (A : Nat → Nat → Int32) (J : Nat → Nat → Int64) (t : Bool × Bool) (x1 : Int32) : Int32 := (px_X1_dayOf_19 n I A J t x1)
def q69_X11_learnReport_0 (n : Nat) (I : Nat → Nat → Int32) (A : Nat → Nat → Int32) (J : Nat → Nat → Int64) (t : Bool × Bool) (x1 : Int32) : Int32 := (px_X8_numberAt_16 n I A J t (px_X11_seasonOf n I A J t (q36_X11_learnReport_0 n I A J t x1)) ((px_X11_firstCell_0 n I A J t (q8_X11_learnReport_0 n I A J t x1) (q17_X11_learnReport_0 n I A J t x1) (q36_X11_learnReport_0 n I A J t x1) (px_X1_fromOf_19 n I A J t x1)) + (q26_X11_learnReport_0 n I A J t x1)))
def qAm75_X11_learnReport_0 (n : Nat) (I : Nat → Nat → Int32) (A : Nat → Nat → Int32) (J : Nat → Nat → Int64) (t : Bool × Bool) (x1 : Int32) : Nat → Nat → Int32 := if (q69_X11_learnReport_0 n I A J t x1) = (-1000000) then A else (pA_X0_add_29 n I A J t (q8_X11_learnReport_0 n I A J t x1) (q17_X11_learnReport_0 n I A J t x1) (q26_X11_learnReport_0 n I A J t x1) ((px_X1_heardOf_19 n I A J t x1) - (q69_X11_learnReport_0 n I A J t x1)))
def pb_X11_learnReport_0 (n : Nat) (I : Nat → Nat → Int32) (A : Nat → Nat → Int32) (J : Nat → Nat → Int64) (t : Bool × Bool) (x1 : Int32) : Prop := pb_X1_siteOf_19 n I A J t x1 ∧ pb_X1_landOf_19 n I A J t x1 ∧ pb_X1_bandOf_19 n I A J t x1 ∧ pb_X1_dayOf_19 n I A J t x1 ∧ pb_X1_fromOf_19 n I A J t x1 ∧ pb_X11_firstCell_0 n I A J t (q8_X11_learnReport_0 n I A J t x1) (q17_X11_learnReport_0 n I A J t x1) (q36_X11_learnReport_0 n I A J t x1) (px_X1_fromOf_19 n I A J t x1) ∧ pb_X8_numberAt_16 n I A J t (px_X11_seasonOf n I A J t (q36_X11_learnReport_0 n I A J t x1)) ((px_X11_firstCell_0 n I A J t (q8_X11_learnReport_0 n I A J t x1) (q17_X11_learnReport_0 n I A J t x1) (q36_X11_learnReport_0 n I A J t x1) (px_X1_fromOf_19 n I A J t x1)) + (q26_X11_learnReport_0 n I A J t x1)) ∧ (¬ (q69_X11_learnReport_0 n I A J t x1) = (-1000000) → pb_X1_heardOf_19 n I A J t x1 ∧ pb_X0_add_29 n I A J t (q8_X11_learnReport_0 n I A J t x1) (q17_X11_learnReport_0 n I A J t x1) (q26_X11_learnReport_0 n I A J t x1) ((px_X1_heardOf_19 n I A J t x1) - (q69_X11_learnReport_0 n I A J t x1)))
def pA_X11_learnReport_0 (n : Nat) (I : Nat → Nat → Int32) (A : Nat → Nat → Int32) (J : Nat → Nat → Int64) (t : Bool × Bool) (x1 : Int32) : Nat → Nat → Int32 := (qAm75_X11_learnReport_0 n I A J t x1)
set_option maxRecDepth 100000 in
set_option maxHeartbeats 4000000 in
theorem cv_X11_learnReport_0 (g : cw_G) (n : Nat) (I : Nat → Nat → Int32) (A : Nat → Nat → Int32) (J : Nat → Nat → Int64) (t : Bool × Bool) (x1 : Int32) (hb : pb_X11_learnReport_0 n I A J t x1) : Cd g mX11_learnReport [(.ref (cw_z g + 0)), (.int x1)] (hp g I A J t) none (hp g I (pA_X11_learnReport_0 n I A J t x1) J t) := by
  unfold pb_X11_learnReport_0 at hb
  unfold pA_X11_learnReport_0
  refine Cd.of rfl (Nat.le_of_ble_eq_true rfl) (ev_gen (fun Q hQ => ?_))
  refine ev_aload_n (pc := 0) dX11_learnReport_0 rfl ?_
  refine tv_getr (pc := 1) (d := 19) dX11_learnReport_1 fl_X11_45 (by decide) rfl rfl ?_
  refine ev_iload_n (pc := 4) dX11_learnReport_4 rfl ?_
  refine ev_Vi (pc := 5) dX11_learnReport_5 lk_X11_262 cd_X1_siteOf ar_X1_siteOf ⟨by decide, rfl, rfl⟩ (cv_X1_siteOf_19 g n I A J t x1 hb.1) (show 19 < 120 by decide) rfl rfl rfl rfl (Nat.le_of_ble_eq_true rfl) ⟨by decide, by decide⟩ ?_
  replace hb := hb.2
  refine ev_is (y := (q8_X11_learnReport_0 n I A J t x1)) rfl ?_
  refine ev_istore_2 (pc := 8) dX11_learnReport_8 (by decide) rfl ?_
  refine ev_aload_n (pc := 9) dX11_learnReport_9 rfl ?_
  refine tv_getr (pc := 10) (d := 19) dX11_learnReport_10 fl_X11_45 (by decide) rfl rfl ?_
  refine ev_iload_n (pc := 13) dX11_learnReport_13 rfl ?_
  refine ev_Vi (pc := 14) dX11_learnReport_14 lk_X11_263 cd_X1_landOf ar_X1_landOf ⟨by decide, rfl, rfl⟩ (cv_X1_landOf_19 g n I A J t x1 hb.1) (show 19 < 120 by decide) rfl rfl rfl rfl (Nat.le_of_ble_eq_true rfl) ⟨by decide, by decide⟩ ?_
  replace hb := hb.2
  refine ev_is (y := (q17_X11_learnReport_0 n I A J t x1)) rfl ?_
  refine ev_istore_3 (pc := 17) dX11_learnReport_17 (by decide) rfl ?_
  refine ev_aload_n (pc := 18) dX11_learnReport_18 rfl ?_
  refine tv_getr (pc := 19) (d := 19) dX11_learnReport_19 fl_X11_45 (by decide) rfl rfl ?_
  refine ev_iload_n (pc := 22) dX11_learnReport_22 rfl ?_
  refine ev_Vi (pc := 23) dX11_learnReport_23 lk_X11_266 cd_X1_bandOf ar_X1_bandOf ⟨by decide, rfl, rfl⟩ (cv_X1_bandOf_19 g n I A J t x1 hb.1) (show 19 < 120 by decide) rfl rfl rfl rfl (Nat.le_of_ble_eq_true rfl) ⟨by decide, by decide⟩ ?_
  replace hb := hb.2
  refine ev_is (y := (q26_X11_learnReport_0 n I A J t x1)) rfl ?_
  refine ev_istore_4 (pc := 26) dX11_learnReport_26 (by decide) rfl ?_
  refine ev_aload_n (pc := 28) dX11_learnReport_28 rfl ?_
  refine tv_getr (pc := 29) (d := 19) dX11_learnReport_29 fl_X11_45 (by decide) rfl rfl ?_
  refine ev_iload_n (pc := 32) dX11_learnReport_32 rfl ?_
  refine ev_Vi (pc := 33) dX11_learnReport_33 lk_X11_269 cd_X1_dayOf ar_X1_dayOf ⟨by decide, rfl, rfl⟩ (cv_X1_dayOf_19 g n I A J t x1 hb.1) (show 19 < 120 by decide) rfl rfl rfl rfl (Nat.le_of_ble_eq_true rfl) ⟨by decide, by decide⟩ ?_
  replace hb := hb.2
  refine ev_is (y := (q36_X11_learnReport_0 n I A J t x1)) rfl ?_
  refine ev_istore_5 (pc := 36) dX11_learnReport_36 (by decide) rfl ?_
  refine ev_aload_n (pc := 38) dX11_learnReport_38 rfl ?_
  refine tv_getr (pc := 39) (d := 16) dX11_learnReport_39 fl_X11_38 (by decide) rfl rfl ?_
  refine ev_iload (pc := 42) dX11_learnReport_42 rfl ?_
  refine ev_Si (pc := 44) dX11_learnReport_44 lk_X11_272 cd_X11_seasonOf ar_X11_seasonOf ⟨by decide, rfl, rfl⟩ (cv_X11_seasonOf g n I A J t (q36_X11_learnReport_0 n I A J t x1)) rfl rfl (Nat.le_of_ble_eq_true rfl) ⟨by decide, by decide⟩ ?_
  refine ev_aload_n (pc := 47) dX11_learnReport_47 rfl ?_
  refine ev_iload_n (pc := 48) dX11_learnReport_48 rfl ?_
  refine ev_iload_n (pc := 49) dX11_learnReport_49 rfl ?_
  refine ev_iload (pc := 50) dX11_learnReport_50 rfl ?_
  refine ev_aload_n (pc := 52) dX11_learnReport_52 rfl ?_
  refine tv_getr (pc := 53) (d := 19) dX11_learnReport_53 fl_X11_45 (by decide) rfl rfl ?_
  refine ev_iload_n (pc := 56) dX11_learnReport_56 rfl ?_
  refine ev_Vi (pc := 57) dX11_learnReport_57 lk_X11_275 cd_X1_fromOf ar_X1_fromOf ⟨by decide, rfl, rfl⟩ (cv_X1_fromOf_19 g n I A J t x1 hb.1) (show 19 < 120 by decide) rfl rfl rfl rfl (Nat.le_of_ble_eq_true rfl) ⟨by decide, by decide⟩ ?_
  replace hb := hb.2
  refine ev_Vi (pc := 60) dX11_learnReport_60 lk_X11_197 cd_X11_firstCell ar_X11_firstCell ⟨by decide, rfl, rfl⟩ (cv_X11_firstCell_0 g n I A J t (q8_X11_learnReport_0 n I A J t x1) (q17_X11_learnReport_0 n I A J t x1) (q36_X11_learnReport_0 n I A J t x1) (px_X1_fromOf_19 n I A J t x1) hb.1) (show 0 < 120 by decide) rfl rfl rfl rfl (Nat.le_of_ble_eq_true rfl) ⟨by decide, by decide⟩ ?_
  replace hb := hb.2
  refine ev_iload (pc := 63) dX11_learnReport_63 rfl ?_
  refine ev_iadd (pc := 65) dX11_learnReport_65 ?_
  refine ev_Vi (pc := 66) dX11_learnReport_66 lk_X11_278 cd_X8_numberAt ar_X8_numberAt ⟨by decide, rfl, rfl⟩ (cv_X8_numberAt_16 g n I A J t (px_X11_seasonOf n I A J t (q36_X11_learnReport_0 n I A J t x1)) ((px_X11_firstCell_0 n I A J t (q8_X11_learnReport_0 n I A J t x1) (q17_X11_learnReport_0 n I A J t x1) (q36_X11_learnReport_0 n I A J t x1) (px_X1_fromOf_19 n I A J t x1)) + (q26_X11_learnReport_0 n I A J t x1)) hb.1) (show 16 < 120 by decide) rfl rfl rfl rfl (Nat.le_of_ble_eq_true rfl) ⟨by decide, by decide⟩ ?_
  replace hb := hb.2
  refine ev_is (y := (q69_X11_learnReport_0 n I A J t x1)) rfl ?_
  refine ev_istore_6 (pc := 69) dX11_learnReport_69 (by decide) rfl ?_
  refine ev_iload (pc := 71) dX11_learnReport_71 rfl ?_
  refine ev_ldc (pc := 73) dX11_learnReport_73 ks_X11_182 ?_
  have hF_75 := hb
  refine ev_cut (pj := 100) (Lj := [some (.ref (cw_z g + 0)), some (.int x1), some (.int (q8_X11_learnReport_0 n I A J t x1)), some (.int (q17_X11_learnReport_0 n I A J t x1)), some (.int (q26_X11_learnReport_0 n I A J t x1)), some (.int (q36_X11_learnReport_0 n I A J t x1)), some (.int (q69_X11_learnReport_0 n I A J t x1))]) (stj := []) (σj := hp g I (qAm75_X11_learnReport_0 n I A J t x1) J t) ?_ (fun hJ_75 => ?_)
  rotate_left
  · refine ev_icmp_eq (pc := 75) (tgt := 100) dX11_learnReport_75 (by decide) (fun c_75 => ?_) (fun c_75 => ?_)
    · simp only [qAm75_X11_learnReport_0, if_pos c_75] at hJ_75
      exact ev_loc hJ_75 cw_le0
    · have hb := hF_75 c_75
      refine ev_aload_n (pc := 78) dX11_learnReport_78 rfl ?_
      refine tv_getr (pc := 79) (d := 29) dX11_learnReport_79 fl_X11_52 (by decide) rfl rfl ?_
      refine ev_iload_n (pc := 82) dX11_learnReport_82 rfl ?_
      refine ev_iload_n (pc := 83) dX11_learnReport_83 rfl ?_
      refine ev_iload (pc := 84) dX11_learnReport_84 rfl ?_
      refine ev_aload_n (pc := 86) dX11_learnReport_86 rfl ?_
      refine tv_getr (pc := 87) (d := 19) dX11_learnReport_87 fl_X11_45 (by decide) rfl rfl ?_
      refine ev_iload_n (pc := 90) dX11_learnReport_90 rfl ?_
      refine ev_Vi (pc := 91) dX11_learnReport_91 lk_X11_281 cd_X1_heardOf ar_X1_heardOf ⟨by decide, rfl, rfl⟩ (cv_X1_heardOf_19 g n I A J t x1 hb.1) (show 19 < 120 by decide) rfl rfl rfl rfl (Nat.le_of_ble_eq_true rfl) ⟨by decide, by decide⟩ ?_
      replace hb := hb.2
      refine ev_iload (pc := 94) dX11_learnReport_94 rfl ?_
      refine ev_isub (pc := 96) dX11_learnReport_96 ?_
      refine ev_Vv (pc := 97) dX11_learnReport_97 lk_X11_284 cd_X0_add ar_X0_add ⟨by decide, rfl, rfl⟩ (cv_X0_add_29 g n I A J t (q8_X11_learnReport_0 n I A J t x1) (q17_X11_learnReport_0 n I A J t x1) (q26_X11_learnReport_0 n I A J t x1) ((px_X1_heardOf_19 n I A J t x1) - (q69_X11_learnReport_0 n I A J t x1)) hb) (show 29 < 120 by decide) rfl rfl rfl rfl (Nat.le_of_ble_eq_true rfl) ⟨by decide, by decide⟩ ?_
      simp only [qAm75_X11_learnReport_0, if_neg c_75] at hJ_75
      exact ev_loc hJ_75 cw_le0
  exact ev_vret (pc := 100) dX11_learnReport_100 rfl (by decide) (by decide) (hQ _ _ ⟨rfl, rfl⟩)

def qAm22_X11_learn_0 (n : Nat) (I : Nat → Nat → Int32) (A : Nat → Nat → Int32) (J : Nat → Nat → Int64) (t : Bool × Bool) (x1 : Int32) (A9 : Nat → Nat → Int32) (v9_2 : Int32) : Nat → Nat → Int32 := if (px_X1_isNotice_19 n I A9 J t v9_2) = 0 then (pA_X11_learnReport_0 n I A9 J t v9_2) else A9
def q30_X11_learn_0 (n : Nat) (I : Nat → Nat → Int32) (A : Nat → Nat → Int32) (J : Nat → Nat → Int64) (t : Bool × Bool) (x1 : Int32) (A9 : Nat → Nat → Int32) (v9_2 : Int32) : Int32 := v9_2 + 1
def lp_X11_learn_0_9 (n : Nat) (I : Nat → Nat → Int32) (A : Nat → Nat → Int32) (J : Nat → Nat → Int64) (t : Bool × Bool) (x1 : Int32) : Nat → (Nat → Nat → Int32) → (Int32) → (Nat → Nat → Int32) × Int32
  | 0, A9, v9_2 => (A9, v9_2)
  | f + 1, A9, v9_2 => if x1 ≤ v9_2 then (A9, v9_2) else lp_X11_learn_0_9 n I A J t x1 f (qAm22_X11_learn_0 n I A J t x1 A9 v9_2) (q30_X11_learn_0 n I A J t x1 A9 v9_2)
def lb_X11_learn_0_9 (n : Nat) (I : Nat → Nat → Int32) (A : Nat → Nat → Int32) (J : Nat → Nat → Int64) (t : Bool × Bool) (x1 : Int32) : Nat → (Nat → Nat → Int32) → (Int32) → Prop
  | 0, _, _ => False
  | f + 1, A9, v9_2 => (¬ x1 ≤ v9_2 → pb_X1_isNotice_19 n I A9 J t v9_2 ∧ ((px_X1_isNotice_19 n I A9 J t v9_2) = 0 → pb_X11_learnReport_0 n I A9 J t v9_2) ∧ lb_X11_learn_0_9 n I A J t x1 f (qAm22_X11_learn_0 n I A J t x1 A9 v9_2) (q30_X11_learn_0 n I A J t x1 A9 v9_2))
def qAw9_X11_learn_0 (n : Nat) (I : Nat → Nat → Int32) (A : Nat → Nat → Int32) (J : Nat → Nat → Int64) (t : Bool × Bool) (x1 : Int32) : Nat → Nat → Int32 := (lp_X11_learn_0_9 n I A J t x1 n (pA_X0_renew_29 n I A J t ) 0).1
def q2w9_X11_learn_0 (n : Nat) (I : Nat → Nat → Int32) (A : Nat → Nat → Int32) (J : Nat → Nat → Int64) (t : Bool × Bool) (x1 : Int32) : Int32 := (lp_X11_learn_0_9 n I A J t x1 n (pA_X0_renew_29 n I A J t ) 0).2
def pb_X11_learn_0 (n : Nat) (I : Nat → Nat → Int32) (A : Nat → Nat → Int32) (J : Nat → Nat → Int64) (t : Bool × Bool) (x1 : Int32) : Prop := pb_X0_renew_29 n I A J t  ∧ lb_X11_learn_0_9 n I A J t x1 n (pA_X0_renew_29 n I A J t ) 0
def pA_X11_learn_0 (n : Nat) (I : Nat → Nat → Int32) (A : Nat → Nat → Int32) (J : Nat → Nat → Int64) (t : Bool × Bool) (x1 : Int32) : Nat → Nat → Int32 := (qAw9_X11_learn_0 n I A J t x1)
set_option maxRecDepth 100000 in
set_option maxHeartbeats 4000000 in
theorem lt_X11_learn_0_9 (g : cw_G) (n : Nat) (I : Nat → Nat → Int32) (A : Nat → Nat → Int32) (J : Nat → Nat → Int64) (t : Bool × Bool) (x1 : Int32) {Q : Option Value → cw_H → Prop} : ∀ (f : Nat) (A9 : Nat → Nat → Int32) (v9_2 : Int32) (w0 : Nat → Nat → Int32) (w1 : Int32), lb_X11_learn_0_9 n I A J t x1 f A9 v9_2 → (lp_X11_learn_0_9 n I A J t x1 f A9 v9_2).1 = w0 → (lp_X11_learn_0_9 n I A J t x1 f A9 v9_2).2 = w1 → Ev g mX11_learn 0 0 36 [some (.ref (cw_z g + 0)), some (.int x1), some (.int w1)] [] (hp g I w0 J t) Q → Ev g mX11_learn 0 0 9 [some (.ref (cw_z g + 0)), some (.int x1), some (.int v9_2)] [] (hp g I A9 J t) Q := by
  intro f
  induction f with
  | zero =>
    intro A9 v9_2 w0 w1 hb
    exact hb.elim
  | succ f ih =>
    intro A9 v9_2 w0 w1 hb h0 h1 hE
    rw [lb_X11_learn_0_9] at hb
    rw [lp_X11_learn_0_9] at h0 h1
    refine ev_iload_n (pc := 9) dX11_learn_9 rfl ?_
    refine ev_iload_n (pc := 10) dX11_learn_10 rfl ?_
    have hF_11 := hb
    refine ev_icmp_ge (pc := 11) (tgt := 36) dX11_learn_11 (by decide) (fun c_11 => ?_) (fun c_11 => ?_)
    · try simp only [if_pos c_11] at h0
      try simp only [if_pos c_11] at h1
      subst h0
      subst h1
      exact ev_loc hE cw_le0
    · have hb := hF_11 c_11
      try simp only [if_neg c_11] at h0
      try simp only [if_neg c_11] at h1
      refine ev_aload_n (pc := 14) dX11_learn_14 rfl ?_
      refine tv_getr (pc := 15) (d := 19) dX11_learn_15 fl_X11_45 (by decide) rfl rfl ?_
      refine ev_iload_n (pc := 18) dX11_learn_18 rfl ?_
      refine ev_Vi (pc := 19) dX11_learn_19 lk_X11_207 cd_X1_isNotice ar_X1_isNotice ⟨by decide, rfl, rfl⟩ (cv_X1_isNotice_19 g n I A9 J t v9_2 hb.1) (show 19 < 120 by decide) rfl rfl rfl rfl (Nat.le_of_ble_eq_true rfl) ⟨by decide, by decide⟩ ?_
      replace hb := hb.2
      obtain ⟨hF_22, hb⟩ := hb
      refine ev_cut (pj := 30) (Lj := [some (.ref (cw_z g + 0)), some (.int x1), some (.int v9_2)]) (stj := []) (σj := hp g I (qAm22_X11_learn_0 n I A J t x1 A9 v9_2) J t) ?_ (fun hJ_22 => ?_)
      rotate_left
      · refine ev_if_ne (pc := 22) (tgt := 30) dX11_learn_22 (by decide) (fun c_22 => ?_) (fun c_22 => ?_)
        · simp only [qAm22_X11_learn_0, if_neg c_22] at hJ_22
          exact ev_loc hJ_22 cw_le0
        · have hb := hF_22 c_22
          refine ev_aload_n (pc := 25) dX11_learn_25 rfl ?_
          refine ev_iload_n (pc := 26) dX11_learn_26 rfl ?_
          refine ev_Vv (pc := 27) dX11_learn_27 lk_X11_259 cd_X11_learnReport ar_X11_learnReport ⟨by decide, rfl, rfl⟩ (cv_X11_learnReport_0 g n I A9 J t v9_2 hb) (show 0 < 120 by decide) rfl rfl rfl rfl (Nat.le_of_ble_eq_true rfl) ⟨by decide, by decide⟩ ?_
          simp only [qAm22_X11_learn_0, if_pos c_22] at hJ_22
          exact ev_loc hJ_22 cw_le0
      refine ev_iinc_2 (pc := 30) (v := (q30_X11_learn_0 n I A J t x1 A9 v9_2)) dX11_learn_30 (by decide) rfl rfl ?_
      refine ev_goto (pc := 33) (tgt := 9) dX11_learn_33 (by decide) ?_
      exact ev_loc (ih (qAm22_X11_learn_0 n I A J t x1 A9 v9_2) (q30_X11_learn_0 n I A J t x1 A9 v9_2) w0 w1 hb h0 h1 hE) cw_le0

set_option maxRecDepth 100000 in
set_option maxHeartbeats 4000000 in
theorem cv_X11_learn_0 (g : cw_G) (n : Nat) (I : Nat → Nat → Int32) (A : Nat → Nat → Int32) (J : Nat → Nat → Int64) (t : Bool × Bool) (x1 : Int32) (hb : pb_X11_learn_0 n I A J t x1) : Cd g mX11_learn [(.ref (cw_z g + 0)), (.int x1)] (hp g I A J t) none (hp g I (pA_X11_learn_0 n I A J t x1) J t) := by
  unfold pb_X11_learn_0 at hb
  unfold pA_X11_learn_0
  refine Cd.of rfl (Nat.le_of_ble_eq_true rfl) (ev_gen (fun Q hQ => ?_))
  refine ev_aload_n (pc := 0) dX11_learn_0 rfl ?_
  refine tv_getr (pc := 1) (d := 29) dX11_learn_1 fl_X11_52 (by decide) rfl rfl ?_
  refine ev_Vv (pc := 4) dX11_learn_4 lk_X11_257 cd_X0_renew ar_X0_renew ⟨by decide, rfl, rfl⟩ (cv_X0_renew_29 g n I A J t  hb.1) (show 29 < 120 by decide) rfl rfl rfl rfl (Nat.le_of_ble_eq_true rfl) ⟨by decide, by decide⟩ ?_
  replace hb := hb.2
  refine ev_iconst (pc := 7) (v := 0) dX11_learn_7 (by decide) ?_
  refine ev_istore_2 (pc := 8) dX11_learn_8 (by decide) rfl ?_
  refine lt_X11_learn_0_9 g n I A J t x1 n (pA_X0_renew_29 n I A J t ) 0 (qAw9_X11_learn_0 n I A J t x1) (q2w9_X11_learn_0 n I A J t x1) hb rfl rfl ?_
  exact ev_vret (pc := 36) dX11_learn_36 rfl (by decide) (by decide) (hQ _ _ ⟨rfl, rfl⟩)

def pb_X11_correction_0 (n : Nat) (I : Nat → Nat → Int32) (A : Nat → Nat → Int32) (J : Nat → Nat → Int64) (t : Bool × Bool) (x1 : Int32) (x2 : Int32) (x3 : Int32) (x4 : Int32) : Prop := (¬ (px_X11_isPath_0 n I A J t x1 x2 x3) = 0 → (¬ (px_X1_canKnow_19 n I A J t x4) = 0 → pb_X11_learn_0 n I A J t x4 ∧ pb_X0_mean_29 n I (pA_X11_learn_0 n I A J t x4) J t x1 x2 x3))
def px_X11_correction_0 (n : Nat) (I : Nat → Nat → Int32) (A : Nat → Nat → Int32) (J : Nat → Nat → Int64) (t : Bool × Bool) (x1 : Int32) (x2 : Int32) (x3 : Int32) (x4 : Int32) : Int32 := (if (px_X11_isPath_0 n I A J t x1 x2 x3) = 0 then (-1000000) else (if (px_X1_canKnow_19 n I A J t x4) = 0 then (-1000000) else (px_X0_mean_29 n I (pA_X11_learn_0 n I A J t x4) J t x1 x2 x3)))
def pA_X11_correction_0 (n : Nat) (I : Nat → Nat → Int32) (A : Nat → Nat → Int32) (J : Nat → Nat → Int64) (t : Bool × Bool) (x1 : Int32) (x2 : Int32) (x3 : Int32) (x4 : Int32) : Nat → Nat → Int32 := (if (px_X11_isPath_0 n I A J t x1 x2 x3) = 0 then A else (if (px_X1_canKnow_19 n I A J t x4) = 0 then A else (pA_X11_learn_0 n I A J t x4)))
set_option maxRecDepth 100000 in
set_option maxHeartbeats 4000000 in
theorem cv_X11_correction_0 (g : cw_G) (n : Nat) (I : Nat → Nat → Int32) (A : Nat → Nat → Int32) (J : Nat → Nat → Int64) (t : Bool × Bool) (x1 : Int32) (x2 : Int32) (x3 : Int32) (x4 : Int32) (hb : pb_X11_correction_0 n I A J t x1 x2 x3 x4) : Cd g mX11_correction [(.ref (cw_z g + 0)), (.int x1), (.int x2), (.int x3), (.int x4)] (hp g I A J t) (some (.int (px_X11_correction_0 n I A J t x1 x2 x3 x4))) (hp g I (pA_X11_correction_0 n I A J t x1 x2 x3 x4) J t) := by
  unfold pb_X11_correction_0 at hb
  unfold px_X11_correction_0 pA_X11_correction_0
  refine Cd.of rfl (Nat.le_of_ble_eq_true rfl) (ev_gen (fun Q hQ => ?_))
  refine ev_aload_n (pc := 0) dX11_correction_0 rfl ?_
  refine ev_iload_n (pc := 1) dX11_correction_1 rfl ?_
  refine ev_iload_n (pc := 2) dX11_correction_2 rfl ?_
  refine ev_iload_n (pc := 3) dX11_correction_3 rfl ?_
  refine ev_Vi (pc := 4) dX11_correction_4 lk_X11_142 cd_X11_isPath ar_X11_isPath ⟨by decide, rfl, rfl⟩ (cv_X11_isPath_0 g n I A J t x1 x2 x3) (show 0 < 120 by decide) rfl rfl rfl rfl (Nat.le_of_ble_eq_true rfl) ⟨by decide, by decide⟩ ?_
  have hF_7 := hb
  refine ev_if_eq (pc := 7) (tgt := 22) dX11_correction_7 (by decide) (fun c_7 => ?_) (fun c_7 => ?_)
  · try simp only [if_pos c_7] at hQ
    refine ev_ldc (pc := 22) dX11_correction_22 ks_X11_182 ?_
    exact ev_iret (pc := 24) dX11_correction_24 rfl (by decide) (by decide) (hQ _ _ ⟨rfl, rfl⟩)
  · have hb := hF_7 c_7
    try simp only [if_neg c_7] at hQ
    refine ev_aload_n (pc := 10) dX11_correction_10 rfl ?_
    refine tv_getr (pc := 11) (d := 19) dX11_correction_11 fl_X11_45 (by decide) rfl rfl ?_
    refine ev_iload (pc := 14) dX11_correction_14 rfl ?_
    refine ev_Vi (pc := 16) dX11_correction_16 lk_X11_179 cd_X1_canKnow ar_X1_canKnow ⟨by decide, rfl, rfl⟩ (cv_X1_canKnow_19 g n I A J t x4) (show 19 < 120 by decide) rfl rfl rfl rfl (Nat.le_of_ble_eq_true rfl) ⟨by decide, by decide⟩ ?_
    have hT_19 := hb
    refine ev_if_ne (pc := 19) (tgt := 25) dX11_correction_19 (by decide) (fun c_19 => ?_) (fun c_19 => ?_)
    · have hb := hT_19 c_19
      try simp only [if_neg c_19] at hQ
      refine ev_aload_n (pc := 25) dX11_correction_25 rfl ?_
      refine ev_iload (pc := 26) dX11_correction_26 rfl ?_
      refine ev_Vv (pc := 28) dX11_correction_28 lk_X11_183 cd_X11_learn ar_X11_learn ⟨by decide, rfl, rfl⟩ (cv_X11_learn_0 g n I A J t x4 hb.1) (show 0 < 120 by decide) rfl rfl rfl rfl (Nat.le_of_ble_eq_true rfl) ⟨by decide, by decide⟩ ?_
      replace hb := hb.2
      refine ev_aload_n (pc := 31) dX11_correction_31 rfl ?_
      refine tv_getr (pc := 32) (d := 29) dX11_correction_32 fl_X11_52 (by decide) rfl rfl ?_
      refine ev_iload_n (pc := 35) dX11_correction_35 rfl ?_
      refine ev_iload_n (pc := 36) dX11_correction_36 rfl ?_
      refine ev_iload_n (pc := 37) dX11_correction_37 rfl ?_
      refine ev_Vi (pc := 38) dX11_correction_38 lk_X11_186 cd_X0_mean ar_X0_mean ⟨by decide, rfl, rfl⟩ (cv_X0_mean_29 g n I (pA_X11_learn_0 n I A J t x4) J t x1 x2 x3 hb) (show 29 < 120 by decide) rfl rfl rfl rfl (Nat.le_of_ble_eq_true rfl) ⟨by decide, by decide⟩ ?_
      exact ev_iret (pc := 41) dX11_correction_41 rfl (by decide) (by decide) (hQ _ _ ⟨rfl, rfl⟩)
    · try simp only [if_pos c_19] at hQ
      refine ev_ldc (pc := 22) dX11_correction_22 ks_X11_182 ?_
      exact ev_iret (pc := 24) dX11_correction_24 rfl (by decide) (by decide) (hQ _ _ ⟨rfl, rfl⟩)

def qs0m42_X11_isSending_0 (n : Nat) (I : Nat → Nat → Int32) (A : Nat → Nat → Int32) (J : Nat → Nat → Int64) (t : Bool × Bool) (x1 : Int32) (x2 : Int32) (x3 : Int32) (x4 : Int32) (x5 : Int32) : Int32 := if (px_X11_isHour n I A J t x5) = 0 then 0 else 1
def qs0m34_X11_isSending_0 (n : Nat) (I : Nat → Nat → Int32) (A : Nat → Nat → Int32) (J : Nat → Nat → Int64) (t : Bool × Bool) (x1 : Int32) (x2 : Int32) (x3 : Int32) (x4 : Int32) (x5 : Int32) : Int32 := if (px_X11_isDay n I A J t x4) = 0 then 0 else (qs0m42_X11_isSending_0 n I A J t x1 x2 x3 x4 x5)
def qs0m26_X11_isSending_0 (n : Nat) (I : Nat → Nat → Int32) (A : Nat → Nat → Int32) (J : Nat → Nat → Int64) (t : Bool × Bool) (x1 : Int32) (x2 : Int32) (x3 : Int32) (x4 : Int32) (x5 : Int32) : Int32 := if (px_X9_has_1 n I A J t x3) = 0 then 0 else (qs0m34_X11_isSending_0 n I A J t x1 x2 x3 x4 x5)
def qs0m15_X11_isSending_0 (n : Nat) (I : Nat → Nat → Int32) (A : Nat → Nat → Int32) (J : Nat → Nat → Int64) (t : Bool × Bool) (x1 : Int32) (x2 : Int32) (x3 : Int32) (x4 : Int32) (x5 : Int32) : Int32 := if (px_X11_isBand n I A J t x2) = 0 then 0 else (qs0m26_X11_isSending_0 n I A J t x1 x2 x3 x4 x5)
def qs0m8_X11_isSending_0 (n : Nat) (I : Nat → Nat → Int32) (A : Nat → Nat → Int32) (J : Nat → Nat → Int64) (t : Bool × Bool) (x1 : Int32) (x2 : Int32) (x3 : Int32) (x4 : Int32) (x5 : Int32) : Int32 := if (px_X2_has_9 n I A J t x1) = 0 then 0 else (qs0m15_X11_isSending_0 n I A J t x1 x2 x3 x4 x5)
def px_X11_isSending_0 (n : Nat) (I : Nat → Nat → Int32) (A : Nat → Nat → Int32) (J : Nat → Nat → Int64) (t : Bool × Bool) (x1 : Int32) (x2 : Int32) (x3 : Int32) (x4 : Int32) (x5 : Int32) : Int32 := (qs0m8_X11_isSending_0 n I A J t x1 x2 x3 x4 x5)
set_option maxRecDepth 100000 in
set_option maxHeartbeats 4000000 in
theorem cv_X11_isSending_0 (g : cw_G) (n : Nat) (I : Nat → Nat → Int32) (A : Nat → Nat → Int32) (J : Nat → Nat → Int64) (t : Bool × Bool) (x1 : Int32) (x2 : Int32) (x3 : Int32) (x4 : Int32) (x5 : Int32) : Cd g mX11_isSending [(.ref (cw_z g + 0)), (.int x1), (.int x2), (.int x3), (.int x4), (.int x5)] (hp g I A J t) (some (.int (px_X11_isSending_0 n I A J t x1 x2 x3 x4 x5))) (hp g I A J t) := by
  unfold px_X11_isSending_0
  refine Cd.of rfl (Nat.le_of_ble_eq_true rfl) (ev_gen (fun Q hQ => ?_))
  refine ev_aload_n (pc := 0) dX11_isSending_0 rfl ?_
  refine tv_getr (pc := 1) (d := 9) dX11_isSending_1 fl_X11_24 (by decide) rfl rfl ?_
  refine ev_iload_n (pc := 4) dX11_isSending_4 rfl ?_
  refine ev_Vi (pc := 5) dX11_isSending_5 lk_X11_256 cd_X2_has ar_X2_has ⟨by decide, rfl, rfl⟩ (cv_X2_has_9 g n I A J t x1) (show 9 < 120 by decide) rfl rfl rfl rfl (Nat.le_of_ble_eq_true rfl) ⟨by decide, by decide⟩ ?_
  refine ev_cut (pj := 50) (Lj := [some (.ref (cw_z g + 0)), some (.int x1), some (.int x2), some (.int x3), some (.int x4), some (.int x5)]) (stj := [(.int (qs0m8_X11_isSending_0 n I A J t x1 x2 x3 x4 x5))]) (σj := hp g I A J t) ?_ (fun hJ_8 => ?_)
  rotate_left
  · refine ev_if_eq (pc := 8) (tgt := 49) dX11_isSending_8 (by decide) (fun c_8 => ?_) (fun c_8 => ?_)
    · refine ev_iconst (pc := 49) (v := 0) dX11_isSending_49 (by decide) ?_
      simp only [qs0m8_X11_isSending_0, if_pos c_8] at hJ_8
      exact ev_loc hJ_8 cw_le0
    · refine ev_iload_n (pc := 11) dX11_isSending_11 rfl ?_
      refine ev_Si (pc := 12) dX11_isSending_12 lk_X11_153 cd_X11_isBand ar_X11_isBand ⟨by decide, rfl, rfl⟩ (cv_X11_isBand g n I A J t x2) rfl rfl (Nat.le_of_ble_eq_true rfl) ⟨by decide, by decide⟩ ?_
      refine ev_cut (pj := 50) (Lj := [some (.ref (cw_z g + 0)), some (.int x1), some (.int x2), some (.int x3), some (.int x4), some (.int x5)]) (stj := [(.int (qs0m15_X11_isSending_0 n I A J t x1 x2 x3 x4 x5))]) (σj := hp g I A J t) ?_ (fun hJ_15 => ?_)
      rotate_left
      · refine ev_if_eq (pc := 15) (tgt := 49) dX11_isSending_15 (by decide) (fun c_15 => ?_) (fun c_15 => ?_)
        · refine ev_iconst (pc := 49) (v := 0) dX11_isSending_49 (by decide) ?_
          simp only [qs0m15_X11_isSending_0, if_pos c_15] at hJ_15
          exact ev_loc hJ_15 cw_le0
        · refine ev_aload_n (pc := 18) dX11_isSending_18 rfl ?_
          refine tv_getr (pc := 19) (d := 1) dX11_isSending_19 fl_X11_14 (by decide) rfl rfl ?_
          refine ev_iload_n (pc := 22) dX11_isSending_22 rfl ?_
          refine ev_Vi (pc := 23) dX11_isSending_23 lk_X11_117 cd_X9_has ar_X9_has ⟨by decide, rfl, rfl⟩ (cv_X9_has_1 g n I A J t x3) (show 1 < 120 by decide) rfl rfl rfl rfl (Nat.le_of_ble_eq_true rfl) ⟨by decide, by decide⟩ ?_
          refine ev_cut (pj := 50) (Lj := [some (.ref (cw_z g + 0)), some (.int x1), some (.int x2), some (.int x3), some (.int x4), some (.int x5)]) (stj := [(.int (qs0m26_X11_isSending_0 n I A J t x1 x2 x3 x4 x5))]) (σj := hp g I A J t) ?_ (fun hJ_26 => ?_)
          rotate_left
          · refine ev_if_eq (pc := 26) (tgt := 49) dX11_isSending_26 (by decide) (fun c_26 => ?_) (fun c_26 => ?_)
            · refine ev_iconst (pc := 49) (v := 0) dX11_isSending_49 (by decide) ?_
              simp only [qs0m26_X11_isSending_0, if_pos c_26] at hJ_26
              exact ev_loc hJ_26 cw_le0
            · refine ev_iload (pc := 29) dX11_isSending_29 rfl ?_
              refine ev_Si (pc := 31) dX11_isSending_31 lk_X11_156 cd_X11_isDay ar_X11_isDay ⟨by decide, rfl, rfl⟩ (cv_X11_isDay g n I A J t x4) rfl rfl (Nat.le_of_ble_eq_true rfl) ⟨by decide, by decide⟩ ?_
              refine ev_cut (pj := 50) (Lj := [some (.ref (cw_z g + 0)), some (.int x1), some (.int x2), some (.int x3), some (.int x4), some (.int x5)]) (stj := [(.int (qs0m34_X11_isSending_0 n I A J t x1 x2 x3 x4 x5))]) (σj := hp g I A J t) ?_ (fun hJ_34 => ?_)
              rotate_left
              · refine ev_if_eq (pc := 34) (tgt := 49) dX11_isSending_34 (by decide) (fun c_34 => ?_) (fun c_34 => ?_)
                · refine ev_iconst (pc := 49) (v := 0) dX11_isSending_49 (by decide) ?_
                  simp only [qs0m34_X11_isSending_0, if_pos c_34] at hJ_34
                  exact ev_loc hJ_34 cw_le0
                · refine ev_iload (pc := 37) dX11_isSending_37 rfl ?_
                  refine ev_Si (pc := 39) dX11_isSending_39 lk_X11_146 cd_X11_isHour ar_X11_isHour ⟨by decide, rfl, rfl⟩ (cv_X11_isHour g n I A J t x5) rfl rfl (Nat.le_of_ble_eq_true rfl) ⟨by decide, by decide⟩ ?_
                  refine ev_cut (pj := 50) (Lj := [some (.ref (cw_z g + 0)), some (.int x1), some (.int x2), some (.int x3), some (.int x4), some (.int x5)]) (stj := [(.int (qs0m42_X11_isSending_0 n I A J t x1 x2 x3 x4 x5))]) (σj := hp g I A J t) ?_ (fun hJ_42 => ?_)
                  rotate_left
                  · refine ev_if_eq (pc := 42) (tgt := 49) dX11_isSending_42 (by decide) (fun c_42 => ?_) (fun c_42 => ?_)
                    · refine ev_iconst (pc := 49) (v := 0) dX11_isSending_49 (by decide) ?_
                      simp only [qs0m42_X11_isSending_0, if_pos c_42] at hJ_42
                      exact ev_loc hJ_42 cw_le0
                    · refine ev_iconst (pc := 45) (v := 1) dX11_isSending_45 (by decide) ?_
                      refine ev_goto (pc := 46) (tgt := 50) dX11_isSending_46 (by decide) ?_
                      simp only [qs0m42_X11_isSending_0, if_neg c_42] at hJ_42
                      exact ev_loc hJ_42 cw_le0
                  simp only [qs0m34_X11_isSending_0, if_neg c_34] at hJ_34
                  exact ev_loc hJ_34 cw_le0
              simp only [qs0m26_X11_isSending_0, if_neg c_26] at hJ_26
              exact ev_loc hJ_26 cw_le0
          simp only [qs0m15_X11_isSending_0, if_neg c_15] at hJ_15
          exact ev_loc hJ_15 cw_le0
      simp only [qs0m8_X11_isSending_0, if_neg c_8] at hJ_8
      exact ev_loc hJ_8 cw_le0
  exact ev_zret (pc := 50) dX11_isSending_50 rfl (cw_nz (cw_ite (Or.inl rfl) (cw_ite (Or.inl rfl) (cw_ite (Or.inl rfl) (cw_ite (Or.inl rfl) (cw_ite (Or.inl rfl) (Or.inr rfl))))))) (by decide) (by decide) (hQ _ _ ⟨rfl, rfl⟩)

theorem z1_X11_isSending_0 (n : Nat) (I : Nat → Nat → Int32) (A : Nat → Nat → Int32) (J : Nat → Nat → Int64) (t : Bool × Bool) (x1 : Int32) (x2 : Int32) (x3 : Int32) (x4 : Int32) (x5 : Int32) : px_X11_isSending_0 n I A J t x1 x2 x3 x4 x5 = 0 ∨ px_X11_isSending_0 n I A J t x1 x2 x3 x4 x5 = 1 := (cw_ite (Or.inl rfl) (cw_ite (Or.inl rfl) (cw_ite (Or.inl rfl) (cw_ite (Or.inl rfl) (cw_ite (Or.inl rfl) (Or.inr rfl))))))

def q16_X11_strengthBy_0 (n : Nat) (I : Nat → Nat → Int32) (A : Nat → Nat → Int32) (J : Nat → Nat → Int64) (t : Bool × Bool) (x1 : Int32) (x2 : Int32) (x3 : Int32) (x4 : Int32) (x5 : Int32) : Int32 := (px_X8_numberAt_16 n I A J t (px_X11_seasonOf n I A J t x4) (x5 + x2))
def pb_X11_strengthBy_0 (n : Nat) (I : Nat → Nat → Int32) (A : Nat → Nat → Int32) (J : Nat → Nat → Int64) (t : Bool × Bool) (x1 : Int32) (x2 : Int32) (x3 : Int32) (x4 : Int32) (x5 : Int32) : Prop := pb_X8_numberAt_16 n I A J t (px_X11_seasonOf n I A J t x4) (x5 + x2) ∧ (¬ (q16_X11_strengthBy_0 n I A J t x1 x2 x3 x4 x5) = (-1000000) → pb_X2_siteOf_9 n I A J t x1 ∧ pb_X0_mean_29 n I A J t (px_X2_siteOf_9 n I A J t x1) x3 x2 ∧ pb_X2_powerOf_9 n I A J t x1)
def px_X11_strengthBy_0 (n : Nat) (I : Nat → Nat → Int32) (A : Nat → Nat → Int32) (J : Nat → Nat → Int64) (t : Bool × Bool) (x1 : Int32) (x2 : Int32) (x3 : Int32) (x4 : Int32) (x5 : Int32) : Int32 := (if (q16_X11_strengthBy_0 n I A J t x1 x2 x3 x4 x5) = (-1000000) then (-1000000) else (((q16_X11_strengthBy_0 n I A J t x1 x2 x3 x4 x5) + (px_X0_mean_29 n I A J t (px_X2_siteOf_9 n I A J t x1) x3 x2)) + (px_X2_powerOf_9 n I A J t x1)))
set_option maxRecDepth 100000 in
set_option maxHeartbeats 4000000 in
theorem cv_X11_strengthBy_0 (g : cw_G) (n : Nat) (I : Nat → Nat → Int32) (A : Nat → Nat → Int32) (J : Nat → Nat → Int64) (t : Bool × Bool) (x1 : Int32) (x2 : Int32) (x3 : Int32) (x4 : Int32) (x5 : Int32) (hb : pb_X11_strengthBy_0 n I A J t x1 x2 x3 x4 x5) : Cd g mX11_strengthBy [(.ref (cw_z g + 0)), (.int x1), (.int x2), (.int x3), (.int x4), (.int x5)] (hp g I A J t) (some (.int (px_X11_strengthBy_0 n I A J t x1 x2 x3 x4 x5))) (hp g I A J t) := by
  unfold pb_X11_strengthBy_0 at hb
  unfold px_X11_strengthBy_0
  refine Cd.of rfl (Nat.le_of_ble_eq_true rfl) (ev_gen (fun Q hQ => ?_))
  refine ev_aload_n (pc := 0) dX11_strengthBy_0 rfl ?_
  refine tv_getr (pc := 1) (d := 16) dX11_strengthBy_1 fl_X11_38 (by decide) rfl rfl ?_
  refine ev_iload (pc := 4) dX11_strengthBy_4 rfl ?_
  refine ev_Si (pc := 6) dX11_strengthBy_6 lk_X11_272 cd_X11_seasonOf ar_X11_seasonOf ⟨by decide, rfl, rfl⟩ (cv_X11_seasonOf g n I A J t x4) rfl rfl (Nat.le_of_ble_eq_true rfl) ⟨by decide, by decide⟩ ?_
  refine ev_iload (pc := 9) dX11_strengthBy_9 rfl ?_
  refine ev_iload_n (pc := 11) dX11_strengthBy_11 rfl ?_
  refine ev_iadd (pc := 12) dX11_strengthBy_12 ?_
  refine ev_Vi (pc := 13) dX11_strengthBy_13 lk_X11_278 cd_X8_numberAt ar_X8_numberAt ⟨by decide, rfl, rfl⟩ (cv_X8_numberAt_16 g n I A J t (px_X11_seasonOf n I A J t x4) (x5 + x2) hb.1) (show 16 < 120 by decide) rfl rfl rfl rfl (Nat.le_of_ble_eq_true rfl) ⟨by decide, by decide⟩ ?_
  replace hb := hb.2
  refine ev_is (y := (q16_X11_strengthBy_0 n I A J t x1 x2 x3 x4 x5)) rfl ?_
  refine ev_istore_6 (pc := 16) dX11_strengthBy_16 (by decide) rfl ?_
  refine ev_iload (pc := 18) dX11_strengthBy_18 rfl ?_
  refine ev_ldc (pc := 20) dX11_strengthBy_20 ks_X11_182 ?_
  have hT_22 := hb
  refine ev_icmp_ne (pc := 22) (tgt := 28) dX11_strengthBy_22 (by decide) (fun c_22 => ?_) (fun c_22 => ?_)
  · have hb := hT_22 c_22
    try simp only [if_neg c_22] at hQ
    refine ev_iload (pc := 28) dX11_strengthBy_28 rfl ?_
    refine ev_aload_n (pc := 30) dX11_strengthBy_30 rfl ?_
    refine tv_getr (pc := 31) (d := 29) dX11_strengthBy_31 fl_X11_52 (by decide) rfl rfl ?_
    refine ev_aload_n (pc := 34) dX11_strengthBy_34 rfl ?_
    refine tv_getr (pc := 35) (d := 9) dX11_strengthBy_35 fl_X11_24 (by decide) rfl rfl ?_
    refine ev_iload_n (pc := 38) dX11_strengthBy_38 rfl ?_
    refine ev_Vi (pc := 39) dX11_strengthBy_39 lk_X11_193 cd_X2_siteOf ar_X2_siteOf ⟨by decide, rfl, rfl⟩ (cv_X2_siteOf_9 g n I A J t x1 hb.1) (show 9 < 120 by decide) rfl rfl rfl rfl (Nat.le_of_ble_eq_true rfl) ⟨by decide, by decide⟩ ?_
    replace hb := hb.2
    refine ev_iload_n (pc := 42) dX11_strengthBy_42 rfl ?_
    refine ev_iload_n (pc := 43) dX11_strengthBy_43 rfl ?_
    refine ev_Vi (pc := 44) dX11_strengthBy_44 lk_X11_186 cd_X0_mean ar_X0_mean ⟨by decide, rfl, rfl⟩ (cv_X0_mean_29 g n I A J t (px_X2_siteOf_9 n I A J t x1) x3 x2 hb.1) (show 29 < 120 by decide) rfl rfl rfl rfl (Nat.le_of_ble_eq_true rfl) ⟨by decide, by decide⟩ ?_
    replace hb := hb.2
    refine ev_iadd (pc := 47) dX11_strengthBy_47 ?_
    refine ev_aload_n (pc := 48) dX11_strengthBy_48 rfl ?_
    refine tv_getr (pc := 49) (d := 9) dX11_strengthBy_49 fl_X11_24 (by decide) rfl rfl ?_
    refine ev_iload_n (pc := 52) dX11_strengthBy_52 rfl ?_
    refine ev_Vi (pc := 53) dX11_strengthBy_53 lk_X11_287 cd_X2_powerOf ar_X2_powerOf ⟨by decide, rfl, rfl⟩ (cv_X2_powerOf_9 g n I A J t x1 hb) (show 9 < 120 by decide) rfl rfl rfl rfl (Nat.le_of_ble_eq_true rfl) ⟨by decide, by decide⟩ ?_
    refine ev_iadd (pc := 56) dX11_strengthBy_56 ?_
    exact ev_iret (pc := 57) dX11_strengthBy_57 rfl (by decide) (by decide) (hQ _ _ ⟨rfl, rfl⟩)
  · try simp only [if_pos c_22] at hQ
    refine ev_ldc (pc := 25) dX11_strengthBy_25 ks_X11_182 ?_
    exact ev_iret (pc := 27) dX11_strengthBy_27 rfl (by decide) (by decide) (hQ _ _ ⟨rfl, rfl⟩)

def pb_X11_strength_0 (n : Nat) (I : Nat → Nat → Int32) (A : Nat → Nat → Int32) (J : Nat → Nat → Int64) (t : Bool × Bool) (x1 : Int32) (x2 : Int32) (x3 : Int32) (x4 : Int32) (x5 : Int32) (x6 : Int32) : Prop := (¬ (px_X11_isSending_0 n I A J t x1 x2 x3 x4 x5) = 0 → (¬ (px_X1_canKnow_19 n I A J t x6) = 0 → pb_X11_learn_0 n I A J t x6 ∧ pb_X2_siteOf_9 n I (pA_X11_learn_0 n I A J t x6) J t x1 ∧ pb_X11_firstCell_0 n I (pA_X11_learn_0 n I A J t x6) J t (px_X2_siteOf_9 n I (pA_X11_learn_0 n I A J t x6) J t x1) x3 x4 x5 ∧ pb_X11_strengthBy_0 n I (pA_X11_learn_0 n I A J t x6) J t x1 x2 x3 x4 (px_X11_firstCell_0 n I (pA_X11_learn_0 n I A J t x6) J t (px_X2_siteOf_9 n I (pA_X11_learn_0 n I A J t x6) J t x1) x3 x4 x5)))
def px_X11_strength_0 (n : Nat) (I : Nat → Nat → Int32) (A : Nat → Nat → Int32) (J : Nat → Nat → Int64) (t : Bool × Bool) (x1 : Int32) (x2 : Int32) (x3 : Int32) (x4 : Int32) (x5 : Int32) (x6 : Int32) : Int32 := (if (px_X11_isSending_0 n I A J t x1 x2 x3 x4 x5) = 0 then (-1000000) else (if (px_X1_canKnow_19 n I A J t x6) = 0 then (-1000000) else (px_X11_strengthBy_0 n I (pA_X11_learn_0 n I A J t x6) J t x1 x2 x3 x4 (px_X11_firstCell_0 n I (pA_X11_learn_0 n I A J t x6) J t (px_X2_siteOf_9 n I (pA_X11_learn_0 n I A J t x6) J t x1) x3 x4 x5))))
def pA_X11_strength_0 (n : Nat) (I : Nat → Nat → Int32) (A : Nat → Nat → Int32) (J : Nat → Nat → Int64) (t : Bool × Bool) (x1 : Int32) (x2 : Int32) (x3 : Int32) (x4 : Int32) (x5 : Int32) (x6 : Int32) : Nat → Nat → Int32 := (if (px_X11_isSending_0 n I A J t x1 x2 x3 x4 x5) = 0 then A else (if (px_X1_canKnow_19 n I A J t x6) = 0 then A else (pA_X11_learn_0 n I A J t x6)))
set_option maxRecDepth 100000 in
set_option maxHeartbeats 4000000 in
theorem cv_X11_strength_0 (g : cw_G) (n : Nat) (I : Nat → Nat → Int32) (A : Nat → Nat → Int32) (J : Nat → Nat → Int64) (t : Bool × Bool) (x1 : Int32) (x2 : Int32) (x3 : Int32) (x4 : Int32) (x5 : Int32) (x6 : Int32) (hb : pb_X11_strength_0 n I A J t x1 x2 x3 x4 x5 x6) : Cd g mX11_strength [(.ref (cw_z g + 0)), (.int x1), (.int x2), (.int x3), (.int x4), (.int x5), (.int x6)] (hp g I A J t) (some (.int (px_X11_strength_0 n I A J t x1 x2 x3 x4 x5 x6))) (hp g I (pA_X11_strength_0 n I A J t x1 x2 x3 x4 x5 x6) J t) := by
  unfold pb_X11_strength_0 at hb
  unfold px_X11_strength_0 pA_X11_strength_0
  refine Cd.of rfl (Nat.le_of_ble_eq_true rfl) (ev_gen (fun Q hQ => ?_))
  refine ev_aload_n (pc := 0) dX11_strength_0 rfl ?_
  refine ev_iload_n (pc := 1) dX11_strength_1 rfl ?_
  refine ev_iload_n (pc := 2) dX11_strength_2 rfl ?_
  refine ev_iload_n (pc := 3) dX11_strength_3 rfl ?_
  refine ev_iload (pc := 4) dX11_strength_4 rfl ?_
  refine ev_iload (pc := 6) dX11_strength_6 rfl ?_
  refine ev_Vi (pc := 8) dX11_strength_8 lk_X11_189 cd_X11_isSending ar_X11_isSending ⟨by decide, rfl, rfl⟩ (cv_X11_isSending_0 g n I A J t x1 x2 x3 x4 x5) (show 0 < 120 by decide) rfl rfl rfl rfl (Nat.le_of_ble_eq_true rfl) ⟨by decide, by decide⟩ ?_
  have hF_11 := hb
  refine ev_if_eq (pc := 11) (tgt := 26) dX11_strength_11 (by decide) (fun c_11 => ?_) (fun c_11 => ?_)
  · try simp only [if_pos c_11] at hQ
    refine ev_ldc (pc := 26) dX11_strength_26 ks_X11_182 ?_
    exact ev_iret (pc := 28) dX11_strength_28 rfl (by decide) (by decide) (hQ _ _ ⟨rfl, rfl⟩)
  · have hb := hF_11 c_11
    try simp only [if_neg c_11] at hQ
    refine ev_aload_n (pc := 14) dX11_strength_14 rfl ?_
    refine tv_getr (pc := 15) (d := 19) dX11_strength_15 fl_X11_45 (by decide) rfl rfl ?_
    refine ev_iload (pc := 18) dX11_strength_18 rfl ?_
    refine ev_Vi (pc := 20) dX11_strength_20 lk_X11_179 cd_X1_canKnow ar_X1_canKnow ⟨by decide, rfl, rfl⟩ (cv_X1_canKnow_19 g n I A J t x6) (show 19 < 120 by decide) rfl rfl rfl rfl (Nat.le_of_ble_eq_true rfl) ⟨by decide, by decide⟩ ?_
    have hT_23 := hb
    refine ev_if_ne (pc := 23) (tgt := 29) dX11_strength_23 (by decide) (fun c_23 => ?_) (fun c_23 => ?_)
    · have hb := hT_23 c_23
      try simp only [if_neg c_23] at hQ
      refine ev_aload_n (pc := 29) dX11_strength_29 rfl ?_
      refine ev_iload (pc := 30) dX11_strength_30 rfl ?_
      refine ev_Vv (pc := 32) dX11_strength_32 lk_X11_183 cd_X11_learn ar_X11_learn ⟨by decide, rfl, rfl⟩ (cv_X11_learn_0 g n I A J t x6 hb.1) (show 0 < 120 by decide) rfl rfl rfl rfl (Nat.le_of_ble_eq_true rfl) ⟨by decide, by decide⟩ ?_
      replace hb := hb.2
      refine ev_aload_n (pc := 35) dX11_strength_35 rfl ?_
      refine ev_iload_n (pc := 36) dX11_strength_36 rfl ?_
      refine ev_iload_n (pc := 37) dX11_strength_37 rfl ?_
      refine ev_iload_n (pc := 38) dX11_strength_38 rfl ?_
      refine ev_iload (pc := 39) dX11_strength_39 rfl ?_
      refine ev_aload_n (pc := 41) dX11_strength_41 rfl ?_
      refine ev_aload_n (pc := 42) dX11_strength_42 rfl ?_
      refine tv_getr (pc := 43) (d := 9) dX11_strength_43 fl_X11_24 (by decide) rfl rfl ?_
      refine ev_iload_n (pc := 46) dX11_strength_46 rfl ?_
      refine ev_Vi (pc := 47) dX11_strength_47 lk_X11_193 cd_X2_siteOf ar_X2_siteOf ⟨by decide, rfl, rfl⟩ (cv_X2_siteOf_9 g n I (pA_X11_learn_0 n I A J t x6) J t x1 hb.1) (show 9 < 120 by decide) rfl rfl rfl rfl (Nat.le_of_ble_eq_true rfl) ⟨by decide, by decide⟩ ?_
      replace hb := hb.2
      refine ev_iload_n (pc := 50) dX11_strength_50 rfl ?_
      refine ev_iload (pc := 51) dX11_strength_51 rfl ?_
      refine ev_iload (pc := 53) dX11_strength_53 rfl ?_
      refine ev_Vi (pc := 55) dX11_strength_55 lk_X11_197 cd_X11_firstCell ar_X11_firstCell ⟨by decide, rfl, rfl⟩ (cv_X11_firstCell_0 g n I (pA_X11_learn_0 n I A J t x6) J t (px_X2_siteOf_9 n I (pA_X11_learn_0 n I A J t x6) J t x1) x3 x4 x5 hb.1) (show 0 < 120 by decide) rfl rfl rfl rfl (Nat.le_of_ble_eq_true rfl) ⟨by decide, by decide⟩ ?_
      replace hb := hb.2
      refine ev_Vi (pc := 58) dX11_strength_58 lk_X11_201 cd_X11_strengthBy ar_X11_strengthBy ⟨by decide, rfl, rfl⟩ (cv_X11_strengthBy_0 g n I (pA_X11_learn_0 n I A J t x6) J t x1 x2 x3 x4 (px_X11_firstCell_0 n I (pA_X11_learn_0 n I A J t x6) J t (px_X2_siteOf_9 n I (pA_X11_learn_0 n I A J t x6) J t x1) x3 x4 x5) hb) (show 0 < 120 by decide) rfl rfl rfl rfl (Nat.le_of_ble_eq_true rfl) ⟨by decide, by decide⟩ ?_
      exact ev_iret (pc := 61) dX11_strength_61 rfl (by decide) (by decide) (hQ _ _ ⟨rfl, rfl⟩)
    · try simp only [if_pos c_23] at hQ
      refine ev_ldc (pc := 26) dX11_strength_26 ks_X11_182 ?_
      exact ev_iret (pc := 28) dX11_strength_28 rfl (by decide) (by decide) (hQ _ _ ⟨rfl, rfl⟩)

def qs0m36_X11_clashes_0 (n : Nat) (I : Nat → Nat → Int32) (A : Nat → Nat → Int32) (J : Nat → Nat → Int64) (t : Bool × Bool) (x1 : Int32) (x2 : Int32) (x3 : Int32) (x4 : Int32) (x5 : Int32) : Int32 := if (px_X9_farTo_1_1 n I A J t x3 (px_X1_landOf_19 n I A J t x1)) = 0 then 1 else 0
def qs0m13_X11_clashes_0 (n : Nat) (I : Nat → Nat → Int32) (A : Nat → Nat → Int32) (J : Nat → Nat → Int64) (t : Bool × Bool) (x1 : Int32) (x2 : Int32) (x3 : Int32) (x4 : Int32) (x5 : Int32) : Int32 := if (px_X1_holdsAt_19 n I A J t x1 x2 x4 x5) = 0 then 0 else (qs0m36_X11_clashes_0 n I A J t x1 x2 x3 x4 x5)
def pb_X11_clashes_0 (n : Nat) (I : Nat → Nat → Int32) (A : Nat → Nat → Int32) (J : Nat → Nat → Int64) (t : Bool × Bool) (x1 : Int32) (x2 : Int32) (x3 : Int32) (x4 : Int32) (x5 : Int32) : Prop := pb_X1_holdsAt_19 n I A J t x1 x2 x4 x5 ∧ (¬ (px_X1_holdsAt_19 n I A J t x1 x2 x4 x5) = 0 → pb_X1_landOf_19 n I A J t x1 ∧ pb_X9_farTo_1_1 n I A J t x3 (px_X1_landOf_19 n I A J t x1))
def px_X11_clashes_0 (n : Nat) (I : Nat → Nat → Int32) (A : Nat → Nat → Int32) (J : Nat → Nat → Int64) (t : Bool × Bool) (x1 : Int32) (x2 : Int32) (x3 : Int32) (x4 : Int32) (x5 : Int32) : Int32 := (qs0m13_X11_clashes_0 n I A J t x1 x2 x3 x4 x5)
set_option maxRecDepth 100000 in
set_option maxHeartbeats 4000000 in
theorem cv_X11_clashes_0 (g : cw_G) (n : Nat) (I : Nat → Nat → Int32) (A : Nat → Nat → Int32) (J : Nat → Nat → Int64) (t : Bool × Bool) (x1 : Int32) (x2 : Int32) (x3 : Int32) (x4 : Int32) (x5 : Int32) (hb : pb_X11_clashes_0 n I A J t x1 x2 x3 x4 x5) : Cd g mX11_clashes [(.ref (cw_z g + 0)), (.int x1), (.int x2), (.int x3), (.int x4), (.int x5)] (hp g I A J t) (some (.int (px_X11_clashes_0 n I A J t x1 x2 x3 x4 x5))) (hp g I A J t) := by
  unfold pb_X11_clashes_0 at hb
  unfold px_X11_clashes_0
  refine Cd.of rfl (Nat.le_of_ble_eq_true rfl) (ev_gen (fun Q hQ => ?_))
  refine ev_aload_n (pc := 0) dX11_clashes_0 rfl ?_
  refine tv_getr (pc := 1) (d := 19) dX11_clashes_1 fl_X11_45 (by decide) rfl rfl ?_
  refine ev_iload_n (pc := 4) dX11_clashes_4 rfl ?_
  refine ev_iload_n (pc := 5) dX11_clashes_5 rfl ?_
  refine ev_iload (pc := 6) dX11_clashes_6 rfl ?_
  refine ev_iload (pc := 8) dX11_clashes_8 rfl ?_
  refine ev_Vi (pc := 10) dX11_clashes_10 lk_X11_290 cd_X1_holdsAt ar_X1_holdsAt ⟨by decide, rfl, rfl⟩ (cv_X1_holdsAt_19 g n I A J t x1 x2 x4 x5 hb.1) (show 19 < 120 by decide) rfl rfl rfl rfl (Nat.le_of_ble_eq_true rfl) ⟨by decide, by decide⟩ ?_
  replace hb := hb.2
  have hF_13 := hb
  refine ev_cut (pj := 44) (Lj := [some (.ref (cw_z g + 0)), some (.int x1), some (.int x2), some (.int x3), some (.int x4), some (.int x5)]) (stj := [(.int (qs0m13_X11_clashes_0 n I A J t x1 x2 x3 x4 x5))]) (σj := hp g I A J t) ?_ (fun hJ_13 => ?_)
  rotate_left
  · refine ev_if_eq (pc := 13) (tgt := 43) dX11_clashes_13 (by decide) (fun c_13 => ?_) (fun c_13 => ?_)
    · refine ev_iconst (pc := 43) (v := 0) dX11_clashes_43 (by decide) ?_
      simp only [qs0m13_X11_clashes_0, if_pos c_13] at hJ_13
      exact ev_loc hJ_13 cw_le0
    · have hb := hF_13 c_13
      refine ev_aload_n (pc := 16) dX11_clashes_16 rfl ?_
      refine tv_getr (pc := 17) (d := 1) dX11_clashes_17 fl_X11_14 (by decide) rfl rfl ?_
      refine ev_iload_n (pc := 20) dX11_clashes_20 rfl ?_
      refine ev_aload_n (pc := 21) dX11_clashes_21 rfl ?_
      refine tv_getr (pc := 22) (d := 1) dX11_clashes_22 fl_X11_14 (by decide) rfl rfl ?_
      refine ev_aload_n (pc := 25) dX11_clashes_25 rfl ?_
      refine tv_getr (pc := 26) (d := 19) dX11_clashes_26 fl_X11_45 (by decide) rfl rfl ?_
      refine ev_iload_n (pc := 29) dX11_clashes_29 rfl ?_
      refine ev_Vi (pc := 30) dX11_clashes_30 lk_X11_263 cd_X1_landOf ar_X1_landOf ⟨by decide, rfl, rfl⟩ (cv_X1_landOf_19 g n I A J t x1 hb.1) (show 19 < 120 by decide) rfl rfl rfl rfl (Nat.le_of_ble_eq_true rfl) ⟨by decide, by decide⟩ ?_
      replace hb := hb.2
      refine ev_Vi (pc := 33) dX11_clashes_33 lk_X11_167 cd_X9_farTo ar_X9_farTo ⟨by decide, rfl, rfl⟩ (cv_X9_farTo_1_1 g n I A J t x3 (px_X1_landOf_19 n I A J t x1) hb) (show 1 < 120 by decide) rfl rfl rfl rfl (Nat.le_of_ble_eq_true rfl) ⟨by decide, by decide⟩ ?_
      refine ev_cut (pj := 44) (Lj := [some (.ref (cw_z g + 0)), some (.int x1), some (.int x2), some (.int x3), some (.int x4), some (.int x5)]) (stj := [(.int (qs0m36_X11_clashes_0 n I A J t x1 x2 x3 x4 x5))]) (σj := hp g I A J t) ?_ (fun hJ_36 => ?_)
      rotate_left
      · refine ev_if_ne (pc := 36) (tgt := 43) dX11_clashes_36 (by decide) (fun c_36 => ?_) (fun c_36 => ?_)
        · refine ev_iconst (pc := 43) (v := 0) dX11_clashes_43 (by decide) ?_
          simp only [qs0m36_X11_clashes_0, if_neg c_36] at hJ_36
          exact ev_loc hJ_36 cw_le0
        · refine ev_iconst (pc := 39) (v := 1) dX11_clashes_39 (by decide) ?_
          refine ev_goto (pc := 40) (tgt := 44) dX11_clashes_40 (by decide) ?_
          simp only [qs0m36_X11_clashes_0, if_pos c_36] at hJ_36
          exact ev_loc hJ_36 cw_le0
      simp only [qs0m13_X11_clashes_0, if_neg c_13] at hJ_13
      exact ev_loc hJ_13 cw_le0
  exact ev_zret (pc := 44) dX11_clashes_44 rfl (cw_nz (cw_ite (Or.inl rfl) (cw_ite (Or.inr rfl) (Or.inl rfl)))) (by decide) (by decide) (hQ _ _ ⟨rfl, rfl⟩)

theorem z1_X11_clashes_0 (n : Nat) (I : Nat → Nat → Int32) (A : Nat → Nat → Int32) (J : Nat → Nat → Int64) (t : Bool × Bool) (x1 : Int32) (x2 : Int32) (x3 : Int32) (x4 : Int32) (x5 : Int32) : px_X11_clashes_0 n I A J t x1 x2 x3 x4 x5 = 0 ∨ px_X11_clashes_0 n I A J t x1 x2 x3 x4 x5 = 1 := (cw_ite (Or.inl rfl) (cw_ite (Or.inr rfl) (Or.inl rfl)))

def q11_X11_isTurned_0 (n : Nat) (I : Nat → Nat → Int32) (A : Nat → Nat → Int32) (J : Nat → Nat → Int64) (t : Bool × Bool) (x1 : Int32) (x2 : Int32) (x3 : Int32) : Int32 := (px_X5_aimOfMast_53 n I A J t (x3 - 1) x1)
def qs0m41_X11_isTurned_0 (n : Nat) (I : Nat → Nat → Int32) (A : Nat → Nat → Int32) (J : Nat → Nat → Int64) (t : Bool × Bool) (x1 : Int32) (x2 : Int32) (x3 : Int32) : Int32 := if (q11_X11_isTurned_0 n I A J t x1 x2 x3) = (px_X9_aimTo_5_1 n I A J t (px_X2_siteOf_9 n I A J t x1) x2) then 1 else 0
def qs0m16_X11_isTurned_0 (n : Nat) (I : Nat → Nat → Int32) (A : Nat → Nat → Int32) (J : Nat → Nat → Int64) (t : Bool × Bool) (x1 : Int32) (x2 : Int32) (x3 : Int32) : Int32 := if (q11_X11_isTurned_0 n I A J t x1 x2 x3) = (-1) then 1 else (qs0m41_X11_isTurned_0 n I A J t x1 x2 x3)
def pb_X11_isTurned_0 (n : Nat) (I : Nat → Nat → Int32) (A : Nat → Nat → Int32) (J : Nat → Nat → Int64) (t : Bool × Bool) (x1 : Int32) (x2 : Int32) (x3 : Int32) : Prop := pb_X5_aimOfMast_53 n I A J t (x3 - 1) x1 ∧ (¬ (q11_X11_isTurned_0 n I A J t x1 x2 x3) = (-1) → pb_X2_siteOf_9 n I A J t x1 ∧ pb_X9_aimTo_5_1 n I A J t (px_X2_siteOf_9 n I A J t x1) x2)
def px_X11_isTurned_0 (n : Nat) (I : Nat → Nat → Int32) (A : Nat → Nat → Int32) (J : Nat → Nat → Int64) (t : Bool × Bool) (x1 : Int32) (x2 : Int32) (x3 : Int32) : Int32 := (qs0m16_X11_isTurned_0 n I A J t x1 x2 x3)
set_option maxRecDepth 100000 in
set_option maxHeartbeats 4000000 in
theorem cv_X11_isTurned_0 (g : cw_G) (n : Nat) (I : Nat → Nat → Int32) (A : Nat → Nat → Int32) (J : Nat → Nat → Int64) (t : Bool × Bool) (x1 : Int32) (x2 : Int32) (x3 : Int32) (hb : pb_X11_isTurned_0 n I A J t x1 x2 x3) : Cd g mX11_isTurned [(.ref (cw_z g + 0)), (.int x1), (.int x2), (.int x3)] (hp g I A J t) (some (.int (px_X11_isTurned_0 n I A J t x1 x2 x3))) (hp g I A J t) := by
  unfold pb_X11_isTurned_0 at hb
  unfold px_X11_isTurned_0
  refine Cd.of rfl (Nat.le_of_ble_eq_true rfl) (ev_gen (fun Q hQ => ?_))
  refine ev_aload_n (pc := 0) dX11_isTurned_0 rfl ?_
  refine tv_getr (pc := 1) (d := 53) dX11_isTurned_1 fl_X11_81 (by decide) rfl rfl ?_
  refine ev_iload_n (pc := 4) dX11_isTurned_4 rfl ?_
  refine ev_iconst (pc := 5) (v := 1) dX11_isTurned_5 (by decide) ?_
  refine ev_isub (pc := 6) dX11_isTurned_6 ?_
  refine ev_iload_n (pc := 7) dX11_isTurned_7 rfl ?_
  refine ev_Vi (pc := 8) dX11_isTurned_8 lk_X11_319 cd_X5_aimOfMast ar_X5_aimOfMast ⟨by decide, rfl, rfl⟩ (cv_X5_aimOfMast_53 g n I A J t (x3 - 1) x1 hb.1) (show 53 < 120 by decide) rfl rfl rfl rfl (Nat.le_of_ble_eq_true rfl) ⟨by decide, by decide⟩ ?_
  replace hb := hb.2
  refine ev_is (y := (q11_X11_isTurned_0 n I A J t x1 x2 x3)) rfl ?_
  refine ev_istore_4 (pc := 11) dX11_isTurned_11 (by decide) rfl ?_
  refine ev_iload (pc := 13) dX11_isTurned_13 rfl ?_
  refine ev_iconst (pc := 15) (v := (-1)) dX11_isTurned_15 (by decide) ?_
  have hF_16 := hb
  refine ev_cut (pj := 49) (Lj := [some (.ref (cw_z g + 0)), some (.int x1), some (.int x2), some (.int x3), some (.int (q11_X11_isTurned_0 n I A J t x1 x2 x3))]) (stj := [(.int (qs0m16_X11_isTurned_0 n I A J t x1 x2 x3))]) (σj := hp g I A J t) ?_ (fun hJ_16 => ?_)
  rotate_left
  · refine ev_icmp_eq (pc := 16) (tgt := 44) dX11_isTurned_16 (by decide) (fun c_16 => ?_) (fun c_16 => ?_)
    · refine ev_iconst (pc := 44) (v := 1) dX11_isTurned_44 (by decide) ?_
      refine ev_goto (pc := 45) (tgt := 49) dX11_isTurned_45 (by decide) ?_
      simp only [qs0m16_X11_isTurned_0, if_pos c_16] at hJ_16
      exact ev_loc hJ_16 cw_le0
    · have hb := hF_16 c_16
      refine ev_iload (pc := 19) dX11_isTurned_19 rfl ?_
      refine ev_aload_n (pc := 21) dX11_isTurned_21 rfl ?_
      refine tv_getr (pc := 22) (d := 5) dX11_isTurned_22 fl_X11_18 (by decide) rfl rfl ?_
      refine ev_aload_n (pc := 25) dX11_isTurned_25 rfl ?_
      refine tv_getr (pc := 26) (d := 9) dX11_isTurned_26 fl_X11_24 (by decide) rfl rfl ?_
      refine ev_iload_n (pc := 29) dX11_isTurned_29 rfl ?_
      refine ev_Vi (pc := 30) dX11_isTurned_30 lk_X11_193 cd_X2_siteOf ar_X2_siteOf ⟨by decide, rfl, rfl⟩ (cv_X2_siteOf_9 g n I A J t x1 hb.1) (show 9 < 120 by decide) rfl rfl rfl rfl (Nat.le_of_ble_eq_true rfl) ⟨by decide, by decide⟩ ?_
      replace hb := hb.2
      refine ev_aload_n (pc := 33) dX11_isTurned_33 rfl ?_
      refine tv_getr (pc := 34) (d := 1) dX11_isTurned_34 fl_X11_14 (by decide) rfl rfl ?_
      refine ev_iload_n (pc := 37) dX11_isTurned_37 rfl ?_
      refine ev_Vi (pc := 38) dX11_isTurned_38 lk_X11_170 cd_X9_aimTo ar_X9_aimTo ⟨by decide, rfl, rfl⟩ (cv_X9_aimTo_5_1 g n I A J t (px_X2_siteOf_9 n I A J t x1) x2 hb) (show 5 < 120 by decide) rfl rfl rfl rfl (Nat.le_of_ble_eq_true rfl) ⟨by decide, by decide⟩ ?_
      refine ev_cut (pj := 49) (Lj := [some (.ref (cw_z g + 0)), some (.int x1), some (.int x2), some (.int x3), some (.int (q11_X11_isTurned_0 n I A J t x1 x2 x3))]) (stj := [(.int (qs0m41_X11_isTurned_0 n I A J t x1 x2 x3))]) (σj := hp g I A J t) ?_ (fun hJ_41 => ?_)
      rotate_left
      · refine ev_icmp_ne (pc := 41) (tgt := 48) dX11_isTurned_41 (by decide) (fun c_41 => ?_) (fun c_41 => ?_)
        · refine ev_iconst (pc := 48) (v := 0) dX11_isTurned_48 (by decide) ?_
          simp only [qs0m41_X11_isTurned_0, if_neg c_41] at hJ_41
          exact ev_loc hJ_41 cw_le0
        · refine ev_iconst (pc := 44) (v := 1) dX11_isTurned_44 (by decide) ?_
          refine ev_goto (pc := 45) (tgt := 49) dX11_isTurned_45 (by decide) ?_
          simp only [qs0m41_X11_isTurned_0, if_pos c_41] at hJ_41
          exact ev_loc hJ_41 cw_le0
      simp only [qs0m16_X11_isTurned_0, if_neg c_16] at hJ_16
      exact ev_loc hJ_16 cw_le0
  exact ev_zret (pc := 49) dX11_isTurned_49 rfl (cw_nz (cw_ite (Or.inr rfl) (cw_ite (Or.inr rfl) (Or.inl rfl)))) (by decide) (by decide) (hQ _ _ ⟨rfl, rfl⟩)

theorem z1_X11_isTurned_0 (n : Nat) (I : Nat → Nat → Int32) (A : Nat → Nat → Int32) (J : Nat → Nat → Int64) (t : Bool × Bool) (x1 : Int32) (x2 : Int32) (x3 : Int32) : px_X11_isTurned_0 n I A J t x1 x2 x3 = 0 ∨ px_X11_isTurned_0 n I A J t x1 x2 x3 = 1 := (cw_ite (Or.inr rfl) (cw_ite (Or.inr rfl) (Or.inl rfl)))

def q21_X11_settle_0 (n : Nat) (I : Nat → Nat → Int32) (A : Nat → Nat → Int32) (J : Nat → Nat → Int64) (t : Bool × Bool) (x1 : Int32) (A2 : Nat → Nat → Int32) (v2_2 : Int32) : Int32 := (px_X3_mastFor_46 n I A2 J t v2_2)
def q35_X11_settle_0 (n : Nat) (I : Nat → Nat → Int32) (A : Nat → Nat → Int32) (J : Nat → Nat → Int64) (t : Bool × Bool) (x1 : Int32) (A2 : Nat → Nat → Int32) (v2_2 : Int32) : Int32 := (px_X6_landOf_12 n I A2 J t v2_2)
def q58_X11_settle_0 (n : Nat) (I : Nat → Nat → Int32) (A : Nat → Nat → Int32) (J : Nat → Nat → Int64) (t : Bool × Bool) (x1 : Int32) (A2 : Nat → Nat → Int32) (v2_2 : Int32) : Int32 := (px_X9_aimTo_5_1 n I A2 J t (px_X2_siteOf_9 n I A2 J t (q21_X11_settle_0 n I A J t x1 A2 v2_2)) (q35_X11_settle_0 n I A J t x1 A2 v2_2))
def qAm24_X11_settle_0 (n : Nat) (I : Nat → Nat → Int32) (A : Nat → Nat → Int32) (J : Nat → Nat → Int64) (t : Bool × Bool) (x1 : Int32) (A2 : Nat → Nat → Int32) (v2_2 : Int32) : Nat → Nat → Int32 := if (q21_X11_settle_0 n I A J t x1 A2 v2_2) = (-1) then A2 else (pA_X5_addListeners_53 n I (pA_X5_put_53 n I A2 J t x1 v2_2 (q21_X11_settle_0 n I A J t x1 A2 v2_2) (px_X3_bandOf_46 n I A2 J t v2_2 (q21_X11_settle_0 n I A J t x1 A2 v2_2)) (q58_X11_settle_0 n I A J t x1 A2 v2_2) (px_X3_strengthOf_46 n I A2 J t v2_2 (q21_X11_settle_0 n I A J t x1 A2 v2_2))) J t x1 (px_X9_listenersOf_1 n I (pA_X5_put_53 n I A2 J t x1 v2_2 (q21_X11_settle_0 n I A J t x1 A2 v2_2) (px_X3_bandOf_46 n I A2 J t v2_2 (q21_X11_settle_0 n I A J t x1 A2 v2_2)) (q58_X11_settle_0 n I A J t x1 A2 v2_2) (px_X3_strengthOf_46 n I A2 J t v2_2 (q21_X11_settle_0 n I A J t x1 A2 v2_2))) J t (q35_X11_settle_0 n I A J t x1 A2 v2_2)))
def q107_X11_settle_0 (n : Nat) (I : Nat → Nat → Int32) (A : Nat → Nat → Int32) (J : Nat → Nat → Int64) (t : Bool × Bool) (x1 : Int32) (A2 : Nat → Nat → Int32) (v2_2 : Int32) : Int32 := v2_2 + 1
def lp_X11_settle_0_2 (n : Nat) (I : Nat → Nat → Int32) (A : Nat → Nat → Int32) (J : Nat → Nat → Int64) (t : Bool × Bool) (x1 : Int32) : Nat → (Nat → Nat → Int32) → (Int32) → (Nat → Nat → Int32) × Int32
  | 0, A2, v2_2 => (A2, v2_2)
  | f + 1, A2, v2_2 => if (I 12 3) ≤ v2_2 then (A2, v2_2) else lp_X11_settle_0_2 n I A J t x1 f (qAm24_X11_settle_0 n I A J t x1 A2 v2_2) (q107_X11_settle_0 n I A J t x1 A2 v2_2)
def lb_X11_settle_0_2 (n : Nat) (I : Nat → Nat → Int32) (A : Nat → Nat → Int32) (J : Nat → Nat → Int64) (t : Bool × Bool) (x1 : Int32) : Nat → (Nat → Nat → Int32) → (Int32) → Prop
  | 0, _, _ => False
  | f + 1, A2, v2_2 => (¬ (I 12 3) ≤ v2_2 → pb_X3_mastFor_46 n I A2 J t v2_2 ∧ (¬ (q21_X11_settle_0 n I A J t x1 A2 v2_2) = (-1) → pb_X6_landOf_12 n I A2 J t v2_2 ∧ pb_X2_siteOf_9 n I A2 J t (q21_X11_settle_0 n I A J t x1 A2 v2_2) ∧ pb_X9_aimTo_5_1 n I A2 J t (px_X2_siteOf_9 n I A2 J t (q21_X11_settle_0 n I A J t x1 A2 v2_2)) (q35_X11_settle_0 n I A J t x1 A2 v2_2) ∧ pb_X3_bandOf_46 n I A2 J t v2_2 (q21_X11_settle_0 n I A J t x1 A2 v2_2) ∧ pb_X3_strengthOf_46 n I A2 J t v2_2 (q21_X11_settle_0 n I A J t x1 A2 v2_2) ∧ pb_X5_put_53 n I A2 J t x1 v2_2 (q21_X11_settle_0 n I A J t x1 A2 v2_2) (px_X3_bandOf_46 n I A2 J t v2_2 (q21_X11_settle_0 n I A J t x1 A2 v2_2)) (q58_X11_settle_0 n I A J t x1 A2 v2_2) (px_X3_strengthOf_46 n I A2 J t v2_2 (q21_X11_settle_0 n I A J t x1 A2 v2_2)) ∧ pb_X9_listenersOf_1 n I (pA_X5_put_53 n I A2 J t x1 v2_2 (q21_X11_settle_0 n I A J t x1 A2 v2_2) (px_X3_bandOf_46 n I A2 J t v2_2 (q21_X11_settle_0 n I A J t x1 A2 v2_2)) (q58_X11_settle_0 n I A J t x1 A2 v2_2) (px_X3_strengthOf_46 n I A2 J t v2_2 (q21_X11_settle_0 n I A J t x1 A2 v2_2))) J t (q35_X11_settle_0 n I A J t x1 A2 v2_2) ∧ pb_X5_addListeners_53 n I (pA_X5_put_53 n I A2 J t x1 v2_2 (q21_X11_settle_0 n I A J t x1 A2 v2_2) (px_X3_bandOf_46 n I A2 J t v2_2 (q21_X11_settle_0 n I A J t x1 A2 v2_2)) (q58_X11_settle_0 n I A J t x1 A2 v2_2) (px_X3_strengthOf_46 n I A2 J t v2_2 (q21_X11_settle_0 n I A J t x1 A2 v2_2))) J t x1 (px_X9_listenersOf_1 n I (pA_X5_put_53 n I A2 J t x1 v2_2 (q21_X11_settle_0 n I A J t x1 A2 v2_2) (px_X3_bandOf_46 n I A2 J t v2_2 (q21_X11_settle_0 n I A J t x1 A2 v2_2)) (q58_X11_settle_0 n I A J t x1 A2 v2_2) (px_X3_strengthOf_46 n I A2 J t v2_2 (q21_X11_settle_0 n I A J t x1 A2 v2_2))) J t (q35_X11_settle_0 n I A J t x1 A2 v2_2))) ∧ lb_X11_settle_0_2 n I A J t x1 f (qAm24_X11_settle_0 n I A J t x1 A2 v2_2) (q107_X11_settle_0 n I A J t x1 A2 v2_2))
def qAw2_X11_settle_0 (n : Nat) (I : Nat → Nat → Int32) (A : Nat → Nat → Int32) (J : Nat → Nat → Int64) (t : Bool × Bool) (x1 : Int32) : Nat → Nat → Int32 := (lp_X11_settle_0_2 n I A J t x1 n A 0).1
def q2w2_X11_settle_0 (n : Nat) (I : Nat → Nat → Int32) (A : Nat → Nat → Int32) (J : Nat → Nat → Int64) (t : Bool × Bool) (x1 : Int32) : Int32 := (lp_X11_settle_0_2 n I A J t x1 n A 0).2
def pb_X11_settle_0 (n : Nat) (I : Nat → Nat → Int32) (A : Nat → Nat → Int32) (J : Nat → Nat → Int64) (t : Bool × Bool) (x1 : Int32) : Prop := lb_X11_settle_0_2 n I A J t x1 n A 0
def pA_X11_settle_0 (n : Nat) (I : Nat → Nat → Int32) (A : Nat → Nat → Int32) (J : Nat → Nat → Int64) (t : Bool × Bool) (x1 : Int32) : Nat → Nat → Int32 := (qAw2_X11_settle_0 n I A J t x1)
set_option maxRecDepth 100000 in
set_option maxHeartbeats 4000000 in
theorem lt_X11_settle_0_2 (g : cw_G) (n : Nat) (I : Nat → Nat → Int32) (A : Nat → Nat → Int32) (J : Nat → Nat → Int64) (t : Bool × Bool) (x1 : Int32) {Q : Option Value → cw_H → Prop} : ∀ (f : Nat) (A2 : Nat → Nat → Int32) (v2_2 : Int32) (w0 : Nat → Nat → Int32) (w1 : Int32), lb_X11_settle_0_2 n I A J t x1 f A2 v2_2 → (lp_X11_settle_0_2 n I A J t x1 f A2 v2_2).1 = w0 → (lp_X11_settle_0_2 n I A J t x1 f A2 v2_2).2 = w1 → Ev g mX11_settle 0 0 113 [some (.ref (cw_z g + 0)), some (.int x1), some (.int w1), none, none, none] [] (hp g I w0 J t) Q → Ev g mX11_settle 0 0 2 [some (.ref (cw_z g + 0)), some (.int x1), some (.int v2_2), none, none, none] [] (hp g I A2 J t) Q := by
  intro f
  induction f with
  | zero =>
    intro A2 v2_2 w0 w1 hb
    exact hb.elim
  | succ f ih =>
    intro A2 v2_2 w0 w1 hb h0 h1 hE
    rw [lb_X11_settle_0_2] at hb
    rw [lp_X11_settle_0_2] at h0 h1
    refine ev_iload_n (pc := 2) dX11_settle_2 rfl ?_
    refine ev_aload_n (pc := 3) dX11_settle_3 rfl ?_
    refine tv_getr (pc := 4) (d := 12) dX11_settle_4 fl_X11_31 (by decide) rfl rfl ?_
    refine tv_geti (pc := 7) dX11_settle_7 fl_X11_216 (by decide) rfl rfl ?_
    have hF_10 := hb
    refine ev_icmp_ge (pc := 10) (tgt := 113) dX11_settle_10 (by decide) (fun c_10 => ?_) (fun c_10 => ?_)
    · try simp only [if_pos c_10] at h0
      try simp only [if_pos c_10] at h1
      subst h0
      subst h1
      exact ev_loc hE cw_le0
    · have hb := hF_10 c_10
      try simp only [if_neg c_10] at h0
      try simp only [if_neg c_10] at h1
      refine ev_aload_n (pc := 13) dX11_settle_13 rfl ?_
      refine tv_getr (pc := 14) (d := 46) dX11_settle_14 fl_X11_74 (by decide) rfl rfl ?_
      refine ev_iload_n (pc := 17) dX11_settle_17 rfl ?_
      refine ev_Vi (pc := 18) dX11_settle_18 lk_X11_326 cd_X3_mastFor ar_X3_mastFor ⟨by decide, rfl, rfl⟩ (cv_X3_mastFor_46 g n I A2 J t v2_2 hb.1) (show 46 < 120 by decide) rfl rfl rfl rfl (Nat.le_of_ble_eq_true rfl) ⟨by decide, by decide⟩ ?_
      replace hb := hb.2
      refine ev_is (y := (q21_X11_settle_0 n I A J t x1 A2 v2_2)) rfl ?_
      refine ev_istore_3 (pc := 21) dX11_settle_21 (by decide) rfl ?_
      refine ev_iload_n (pc := 22) dX11_settle_22 rfl ?_
      refine ev_iconst (pc := 23) (v := (-1)) dX11_settle_23 (by decide) ?_
      obtain ⟨hF_24, hb⟩ := hb
      refine ev_cut (pj := 107) (Lj := [some (.ref (cw_z g + 0)), some (.int x1), some (.int v2_2), some (.int (q21_X11_settle_0 n I A J t x1 A2 v2_2)), none, none]) (stj := []) (σj := hp g I (qAm24_X11_settle_0 n I A J t x1 A2 v2_2) J t) ?_ (fun hJ_24 => ?_)
      rotate_left
      · refine ev_icmp_eq (pc := 24) (tgt := 107) dX11_settle_24 (by decide) (fun c_24 => ?_) (fun c_24 => ?_)
        · simp only [qAm24_X11_settle_0, if_pos c_24] at hJ_24
          exact ev_loc hJ_24 cw_le0
        · have hb := hF_24 c_24
          refine ev_aload_n (pc := 27) dX11_settle_27 rfl ?_
          refine tv_getr (pc := 28) (d := 12) dX11_settle_28 fl_X11_31 (by decide) rfl rfl ?_
          refine ev_iload_n (pc := 31) dX11_settle_31 rfl ?_
          refine ev_Vi (pc := 32) dX11_settle_32 lk_X11_311 cd_X6_landOf ar_X6_landOf ⟨by decide, rfl, rfl⟩ (cv_X6_landOf_12 g n I A2 J t v2_2 hb.1) (show 12 < 120 by decide) rfl rfl rfl rfl (Nat.le_of_ble_eq_true rfl) ⟨by decide, by decide⟩ ?_
          replace hb := hb.2
          refine ev_is (y := (q35_X11_settle_0 n I A J t x1 A2 v2_2)) rfl ?_
          refine ev_istore_4 (pc := 35) dX11_settle_35 (by decide) rfl ?_
          refine ev_aload_n (pc := 37) dX11_settle_37 rfl ?_
          refine tv_getr (pc := 38) (d := 5) dX11_settle_38 fl_X11_18 (by decide) rfl rfl ?_
          refine ev_aload_n (pc := 41) dX11_settle_41 rfl ?_
          refine tv_getr (pc := 42) (d := 9) dX11_settle_42 fl_X11_24 (by decide) rfl rfl ?_
          refine ev_iload_n (pc := 45) dX11_settle_45 rfl ?_
          refine ev_Vi (pc := 46) dX11_settle_46 lk_X11_193 cd_X2_siteOf ar_X2_siteOf ⟨by decide, rfl, rfl⟩ (cv_X2_siteOf_9 g n I A2 J t (q21_X11_settle_0 n I A J t x1 A2 v2_2) hb.1) (show 9 < 120 by decide) rfl rfl rfl rfl (Nat.le_of_ble_eq_true rfl) ⟨by decide, by decide⟩ ?_
          replace hb := hb.2
          refine ev_aload_n (pc := 49) dX11_settle_49 rfl ?_
          refine tv_getr (pc := 50) (d := 1) dX11_settle_50 fl_X11_14 (by decide) rfl rfl ?_
          refine ev_iload (pc := 53) dX11_settle_53 rfl ?_
          refine ev_Vi (pc := 55) dX11_settle_55 lk_X11_170 cd_X9_aimTo ar_X9_aimTo ⟨by decide, rfl, rfl⟩ (cv_X9_aimTo_5_1 g n I A2 J t (px_X2_siteOf_9 n I A2 J t (q21_X11_settle_0 n I A J t x1 A2 v2_2)) (q35_X11_settle_0 n I A J t x1 A2 v2_2) hb.1) (show 5 < 120 by decide) rfl rfl rfl rfl (Nat.le_of_ble_eq_true rfl) ⟨by decide, by decide⟩ ?_
          replace hb := hb.2
          refine ev_is (y := (q58_X11_settle_0 n I A J t x1 A2 v2_2)) rfl ?_
          refine ev_istore_5 (pc := 58) dX11_settle_58 (by decide) rfl ?_
          refine ev_aload_n (pc := 60) dX11_settle_60 rfl ?_
          refine tv_getr (pc := 61) (d := 53) dX11_settle_61 fl_X11_81 (by decide) rfl rfl ?_
          refine ev_iload_n (pc := 64) dX11_settle_64 rfl ?_
          refine ev_iload_n (pc := 65) dX11_settle_65 rfl ?_
          refine ev_iload_n (pc := 66) dX11_settle_66 rfl ?_
          refine ev_aload_n (pc := 67) dX11_settle_67 rfl ?_
          refine tv_getr (pc := 68) (d := 46) dX11_settle_68 fl_X11_74 (by decide) rfl rfl ?_
          refine ev_iload_n (pc := 71) dX11_settle_71 rfl ?_
          refine ev_iload_n (pc := 72) dX11_settle_72 rfl ?_
          refine ev_Vi (pc := 73) dX11_settle_73 lk_X11_329 cd_X3_bandOf ar_X3_bandOf ⟨by decide, rfl, rfl⟩ (cv_X3_bandOf_46 g n I A2 J t v2_2 (q21_X11_settle_0 n I A J t x1 A2 v2_2) hb.1) (show 46 < 120 by decide) rfl rfl rfl rfl (Nat.le_of_ble_eq_true rfl) ⟨by decide, by decide⟩ ?_
          replace hb := hb.2
          refine ev_iload (pc := 76) dX11_settle_76 rfl ?_
          refine ev_aload_n (pc := 78) dX11_settle_78 rfl ?_
          refine tv_getr (pc := 79) (d := 46) dX11_settle_79 fl_X11_74 (by decide) rfl rfl ?_
          refine ev_iload_n (pc := 82) dX11_settle_82 rfl ?_
          refine ev_iload_n (pc := 83) dX11_settle_83 rfl ?_
          refine ev_Vi (pc := 84) dX11_settle_84 lk_X11_331 cd_X3_strengthOf ar_X3_strengthOf ⟨by decide, rfl, rfl⟩ (cv_X3_strengthOf_46 g n I A2 J t v2_2 (q21_X11_settle_0 n I A J t x1 A2 v2_2) hb.1) (show 46 < 120 by decide) rfl rfl rfl rfl (Nat.le_of_ble_eq_true rfl) ⟨by decide, by decide⟩ ?_
          replace hb := hb.2
          refine ev_Vv (pc := 87) dX11_settle_87 lk_X11_334 cd_X5_put ar_X5_put ⟨by decide, rfl, rfl⟩ (cv_X5_put_53 g n I A2 J t x1 v2_2 (q21_X11_settle_0 n I A J t x1 A2 v2_2) (px_X3_bandOf_46 n I A2 J t v2_2 (q21_X11_settle_0 n I A J t x1 A2 v2_2)) (q58_X11_settle_0 n I A J t x1 A2 v2_2) (px_X3_strengthOf_46 n I A2 J t v2_2 (q21_X11_settle_0 n I A J t x1 A2 v2_2)) hb.1) (show 53 < 120 by decide) rfl rfl rfl rfl (Nat.le_of_ble_eq_true rfl) ⟨by decide, by decide⟩ ?_
          replace hb := hb.2
          refine ev_aload_n (pc := 90) dX11_settle_90 rfl ?_
          refine tv_getr (pc := 91) (d := 53) dX11_settle_91 fl_X11_81 (by decide) rfl rfl ?_
          refine ev_iload_n (pc := 94) dX11_settle_94 rfl ?_
          refine ev_aload_n (pc := 95) dX11_settle_95 rfl ?_
          refine tv_getr (pc := 96) (d := 1) dX11_settle_96 fl_X11_14 (by decide) rfl rfl ?_
          refine ev_iload (pc := 99) dX11_settle_99 rfl ?_
          refine ev_Vi (pc := 101) dX11_settle_101 lk_X11_322 cd_X9_listenersOf ar_X9_listenersOf ⟨by decide, rfl, rfl⟩ (cv_X9_listenersOf_1 g n I (pA_X5_put_53 n I A2 J t x1 v2_2 (q21_X11_settle_0 n I A J t x1 A2 v2_2) (px_X3_bandOf_46 n I A2 J t v2_2 (q21_X11_settle_0 n I A J t x1 A2 v2_2)) (q58_X11_settle_0 n I A J t x1 A2 v2_2) (px_X3_strengthOf_46 n I A2 J t v2_2 (q21_X11_settle_0 n I A J t x1 A2 v2_2))) J t (q35_X11_settle_0 n I A J t x1 A2 v2_2) hb.1) (show 1 < 120 by decide) rfl rfl rfl rfl (Nat.le_of_ble_eq_true rfl) ⟨by decide, by decide⟩ ?_
          replace hb := hb.2
          refine ev_Vv (pc := 104) dX11_settle_104 lk_X11_337 cd_X5_addListeners ar_X5_addListeners ⟨by decide, rfl, rfl⟩ (cv_X5_addListeners_53 g n I (pA_X5_put_53 n I A2 J t x1 v2_2 (q21_X11_settle_0 n I A J t x1 A2 v2_2) (px_X3_bandOf_46 n I A2 J t v2_2 (q21_X11_settle_0 n I A J t x1 A2 v2_2)) (q58_X11_settle_0 n I A J t x1 A2 v2_2) (px_X3_strengthOf_46 n I A2 J t v2_2 (q21_X11_settle_0 n I A J t x1 A2 v2_2))) J t x1 (px_X9_listenersOf_1 n I (pA_X5_put_53 n I A2 J t x1 v2_2 (q21_X11_settle_0 n I A J t x1 A2 v2_2) (px_X3_bandOf_46 n I A2 J t v2_2 (q21_X11_settle_0 n I A J t x1 A2 v2_2)) (q58_X11_settle_0 n I A J t x1 A2 v2_2) (px_X3_strengthOf_46 n I A2 J t v2_2 (q21_X11_settle_0 n I A J t x1 A2 v2_2))) J t (q35_X11_settle_0 n I A J t x1 A2 v2_2)) hb) (show 53 < 120 by decide) rfl rfl rfl rfl (Nat.le_of_ble_eq_true rfl) ⟨by decide, by decide⟩ ?_
          simp only [qAm24_X11_settle_0, if_neg c_24] at hJ_24
          exact ev_loc hJ_24 (cw_leS (cw_leS (cw_leS (cw_leS (cw_leN (cw_leN cw_le0))))))
      refine ev_iinc_2 (pc := 107) (v := (q107_X11_settle_0 n I A J t x1 A2 v2_2)) dX11_settle_107 (by decide) rfl rfl ?_
      refine ev_goto (pc := 110) (tgt := 2) dX11_settle_110 (by decide) ?_
      exact ev_loc (ih (qAm24_X11_settle_0 n I A J t x1 A2 v2_2) (q107_X11_settle_0 n I A J t x1 A2 v2_2) w0 w1 hb h0 h1 hE) (cw_leS (cw_leS (cw_leS (cw_leN cw_le0))))

set_option maxRecDepth 100000 in
set_option maxHeartbeats 4000000 in
theorem cv_X11_settle_0 (g : cw_G) (n : Nat) (I : Nat → Nat → Int32) (A : Nat → Nat → Int32) (J : Nat → Nat → Int64) (t : Bool × Bool) (x1 : Int32) (hb : pb_X11_settle_0 n I A J t x1) : Cd g mX11_settle [(.ref (cw_z g + 0)), (.int x1)] (hp g I A J t) none (hp g I (pA_X11_settle_0 n I A J t x1) J t) := by
  unfold pb_X11_settle_0 at hb
  unfold pA_X11_settle_0
  refine Cd.of rfl (Nat.le_of_ble_eq_true rfl) (ev_gen (fun Q hQ => ?_))
  refine ev_iconst (pc := 0) (v := 0) dX11_settle_0 (by decide) ?_
  refine ev_istore_2 (pc := 1) dX11_settle_1 (by decide) rfl ?_
  refine lt_X11_settle_0_2 g n I A J t x1 n A 0 (qAw2_X11_settle_0 n I A J t x1) (q2w2_X11_settle_0 n I A J t x1) hb rfl rfl ?_
  exact ev_vret (pc := 113) dX11_settle_113 rfl (by decide) (by decide) (hQ _ _ ⟨rfl, rfl⟩)

def pb_X11_slot_0 (n : Nat) (I : Nat → Nat → Int32) (A : Nat → Nat → Int32) (J : Nat → Nat → Int64) (t : Bool × Bool) (x1 : Int32) (x2 : Int32) (x3 : Int32) : Prop := (¬ (px_X11_isHour n I A J t x1) = 0 → (¬ (px_X5_hasProgramme_53 n I A J t x2) = 0 → (x3 = 0 → pb_X5_mastIn_53 n I A J t x1 x2) ∧ (x3 = 1 → pb_X5_bandIn_53 n I A J t x1 x2) ∧ (x3 = 2 → pb_X5_aimIn_53 n I A J t x1 x2) ∧ (x3 = 3 → pb_X5_strengthIn_53 n I A J t x1 x2)))
def px_X11_slot_0 (n : Nat) (I : Nat → Nat → Int32) (A : Nat → Nat → Int32) (J : Nat → Nat → Int64) (t : Bool × Bool) (x1 : Int32) (x2 : Int32) (x3 : Int32) : Int32 := (if (px_X11_isHour n I A J t x1) = 0 then (-1) else (if (px_X5_hasProgramme_53 n I A J t x2) = 0 then (-1) else (if x3 = 0 then (px_X5_mastIn_53 n I A J t x1 x2) else (if x3 = 1 then (px_X5_bandIn_53 n I A J t x1 x2) else (if x3 = 2 then (px_X5_aimIn_53 n I A J t x1 x2) else (if x3 = 3 then (px_X5_strengthIn_53 n I A J t x1 x2) else (-1)))))))
set_option maxRecDepth 100000 in
set_option maxHeartbeats 4000000 in
theorem cv_X11_slot_0 (g : cw_G) (n : Nat) (I : Nat → Nat → Int32) (A : Nat → Nat → Int32) (J : Nat → Nat → Int64) (t : Bool × Bool) (x1 : Int32) (x2 : Int32) (x3 : Int32) (hb : pb_X11_slot_0 n I A J t x1 x2 x3) : Cd g mX11_slot [(.ref (cw_z g + 0)), (.int x1), (.int x2), (.int x3)] (hp g I A J t) (some (.int (px_X11_slot_0 n I A J t x1 x2 x3))) (hp g I A J t) := by
  unfold pb_X11_slot_0 at hb
  unfold px_X11_slot_0
  refine Cd.of rfl (Nat.le_of_ble_eq_true rfl) (ev_gen (fun Q hQ => ?_))
  refine ev_iload_n (pc := 0) dX11_slot_0 rfl ?_
  refine ev_Si (pc := 1) dX11_slot_1 lk_X11_146 cd_X11_isHour ar_X11_isHour ⟨by decide, rfl, rfl⟩ (cv_X11_isHour g n I A J t x1) rfl rfl (Nat.le_of_ble_eq_true rfl) ⟨by decide, by decide⟩ ?_
  have hF_4 := hb
  refine ev_if_eq (pc := 4) (tgt := 18) dX11_slot_4 (by decide) (fun c_4 => ?_) (fun c_4 => ?_)
  · try simp only [if_pos c_4] at hQ
    refine ev_iconst (pc := 18) (v := (-1)) dX11_slot_18 (by decide) ?_
    exact ev_iret (pc := 19) dX11_slot_19 rfl (by decide) (by decide) (hQ _ _ ⟨rfl, rfl⟩)
  · have hb := hF_4 c_4
    try simp only [if_neg c_4] at hQ
    refine ev_aload_n (pc := 7) dX11_slot_7 rfl ?_
    refine tv_getr (pc := 8) (d := 53) dX11_slot_8 fl_X11_81 (by decide) rfl rfl ?_
    refine ev_iload_n (pc := 11) dX11_slot_11 rfl ?_
    refine ev_Vi (pc := 12) dX11_slot_12 lk_X11_234 cd_X5_hasProgramme ar_X5_hasProgramme ⟨by decide, rfl, rfl⟩ (cv_X5_hasProgramme_53 g n I A J t x2) (show 53 < 120 by decide) rfl rfl rfl rfl (Nat.le_of_ble_eq_true rfl) ⟨by decide, by decide⟩ ?_
    have hT_15 := hb
    refine ev_if_ne (pc := 15) (tgt := 20) dX11_slot_15 (by decide) (fun c_15 => ?_) (fun c_15 => ?_)
    · have hb := hT_15 c_15
      try simp only [if_neg c_15] at hQ
      refine ev_iload_n (pc := 20) dX11_slot_20 rfl ?_
      obtain ⟨hS_0_21, hS_1_21, hS_2_21, hS_3_21⟩ := hb
      by_cases s_21_0 : x3 = 0
      · try simp only [if_pos s_21_0] at hQ
        have hb := hS_0_21 s_21_0
        refine ev_tableIn (pc := 21) (tgt := 52) (off := 31) dX11_slot_21 (by rw [s_21_0]; decide) (by rw [s_21_0]; decide) (by rw [s_21_0]; decide) (by decide) ?_
        refine ev_aload_n (pc := 52) dX11_slot_52 rfl ?_
        refine tv_getr (pc := 53) (d := 53) dX11_slot_53 fl_X11_81 (by decide) rfl rfl ?_
        refine ev_iload_n (pc := 56) dX11_slot_56 rfl ?_
        refine ev_iload_n (pc := 57) dX11_slot_57 rfl ?_
        refine ev_Vi (pc := 58) dX11_slot_58 lk_X11_237 cd_X5_mastIn ar_X5_mastIn ⟨by decide, rfl, rfl⟩ (cv_X5_mastIn_53 g n I A J t x1 x2 hb) (show 53 < 120 by decide) rfl rfl rfl rfl (Nat.le_of_ble_eq_true rfl) ⟨by decide, by decide⟩ ?_
        exact ev_iret (pc := 61) dX11_slot_61 rfl (by decide) (by decide) (hQ _ _ ⟨rfl, rfl⟩)
      try simp only [if_neg s_21_0] at hQ
      by_cases s_21_1 : x3 = 1
      · try simp only [if_pos s_21_1] at hQ
        have hb := hS_1_21 s_21_1
        refine ev_tableIn (pc := 21) (tgt := 62) (off := 41) dX11_slot_21 (by rw [s_21_1]; decide) (by rw [s_21_1]; decide) (by rw [s_21_1]; decide) (by decide) ?_
        refine ev_aload_n (pc := 62) dX11_slot_62 rfl ?_
        refine tv_getr (pc := 63) (d := 53) dX11_slot_63 fl_X11_81 (by decide) rfl rfl ?_
        refine ev_iload_n (pc := 66) dX11_slot_66 rfl ?_
        refine ev_iload_n (pc := 67) dX11_slot_67 rfl ?_
        refine ev_Vi (pc := 68) dX11_slot_68 lk_X11_240 cd_X5_bandIn ar_X5_bandIn ⟨by decide, rfl, rfl⟩ (cv_X5_bandIn_53 g n I A J t x1 x2 hb) (show 53 < 120 by decide) rfl rfl rfl rfl (Nat.le_of_ble_eq_true rfl) ⟨by decide, by decide⟩ ?_
        exact ev_iret (pc := 71) dX11_slot_71 rfl (by decide) (by decide) (hQ _ _ ⟨rfl, rfl⟩)
      try simp only [if_neg s_21_1] at hQ
      by_cases s_21_2 : x3 = 2
      · try simp only [if_pos s_21_2] at hQ
        have hb := hS_2_21 s_21_2
        refine ev_tableIn (pc := 21) (tgt := 72) (off := 51) dX11_slot_21 (by rw [s_21_2]; decide) (by rw [s_21_2]; decide) (by rw [s_21_2]; decide) (by decide) ?_
        refine ev_aload_n (pc := 72) dX11_slot_72 rfl ?_
        refine tv_getr (pc := 73) (d := 53) dX11_slot_73 fl_X11_81 (by decide) rfl rfl ?_
        refine ev_iload_n (pc := 76) dX11_slot_76 rfl ?_
        refine ev_iload_n (pc := 77) dX11_slot_77 rfl ?_
        refine ev_Vi (pc := 78) dX11_slot_78 lk_X11_243 cd_X5_aimIn ar_X5_aimIn ⟨by decide, rfl, rfl⟩ (cv_X5_aimIn_53 g n I A J t x1 x2 hb) (show 53 < 120 by decide) rfl rfl rfl rfl (Nat.le_of_ble_eq_true rfl) ⟨by decide, by decide⟩ ?_
        exact ev_iret (pc := 81) dX11_slot_81 rfl (by decide) (by decide) (hQ _ _ ⟨rfl, rfl⟩)
      try simp only [if_neg s_21_2] at hQ
      by_cases s_21_3 : x3 = 3
      · try simp only [if_pos s_21_3] at hQ
        have hb := hS_3_21 s_21_3
        refine ev_tableIn (pc := 21) (tgt := 82) (off := 61) dX11_slot_21 (by rw [s_21_3]; decide) (by rw [s_21_3]; decide) (by rw [s_21_3]; decide) (by decide) ?_
        refine ev_aload_n (pc := 82) dX11_slot_82 rfl ?_
        refine tv_getr (pc := 83) (d := 53) dX11_slot_83 fl_X11_81 (by decide) rfl rfl ?_
        refine ev_iload_n (pc := 86) dX11_slot_86 rfl ?_
        refine ev_iload_n (pc := 87) dX11_slot_87 rfl ?_
        refine ev_Vi (pc := 88) dX11_slot_88 lk_X11_246 cd_X5_strengthIn ar_X5_strengthIn ⟨by decide, rfl, rfl⟩ (cv_X5_strengthIn_53 g n I A J t x1 x2 hb) (show 53 < 120 by decide) rfl rfl rfl rfl (Nat.le_of_ble_eq_true rfl) ⟨by decide, by decide⟩ ?_
        exact ev_iret (pc := 91) dX11_slot_91 rfl (by decide) (by decide) (hQ _ _ ⟨rfl, rfl⟩)
      try simp only [if_neg s_21_3] at hQ
      refine ev_tableOut (pc := 21) (tgt := 92) dX11_slot_21 (by simp only [← Int32.toInt_inj, Int32.reduceToInt] at s_21_0 s_21_1 s_21_2 s_21_3; omega) (by decide) ?_
      refine ev_iconst (pc := 92) (v := (-1)) dX11_slot_92 (by decide) ?_
      exact ev_iret (pc := 93) dX11_slot_93 rfl (by decide) (by decide) (hQ _ _ ⟨rfl, rfl⟩)
    · try simp only [if_pos c_15] at hQ
      refine ev_iconst (pc := 18) (v := (-1)) dX11_slot_18 (by decide) ?_
      exact ev_iret (pc := 19) dX11_slot_19 rfl (by decide) (by decide) (hQ _ _ ⟨rfl, rfl⟩)

def qs0m14_X11_listeners_0 (n : Nat) (I : Nat → Nat → Int32) (A : Nat → Nat → Int32) (J : Nat → Nat → Int64) (t : Bool × Bool) (x1 : Int32) : Int32 := if (px_X11_isHour n I A J t x1) = 0 then (-1) else (px_X5_listenersIn_53 n I A J t x1)
def qs0m7_X11_listeners_0 (n : Nat) (I : Nat → Nat → Int32) (A : Nat → Nat → Int32) (J : Nat → Nat → Int64) (t : Bool × Bool) (x1 : Int32) : Int32 := if (I 53 7) = 0 then (-1) else (qs0m14_X11_listeners_0 n I A J t x1)
def pb_X11_listeners_0 (n : Nat) (I : Nat → Nat → Int32) (A : Nat → Nat → Int32) (J : Nat → Nat → Int64) (t : Bool × Bool) (x1 : Int32) : Prop := (¬ (I 53 7) = 0 → (¬ (px_X11_isHour n I A J t x1) = 0 → pb_X5_listenersIn_53 n I A J t x1))
def px_X11_listeners_0 (n : Nat) (I : Nat → Nat → Int32) (A : Nat → Nat → Int32) (J : Nat → Nat → Int64) (t : Bool × Bool) (x1 : Int32) : Int32 := (qs0m7_X11_listeners_0 n I A J t x1)
set_option maxRecDepth 100000 in
set_option maxHeartbeats 4000000 in
theorem cv_X11_listeners_0 (g : cw_G) (n : Nat) (I : Nat → Nat → Int32) (A : Nat → Nat → Int32) (J : Nat → Nat → Int64) (t : Bool × Bool) (x1 : Int32) (hb : pb_X11_listeners_0 n I A J t x1) : Cd g mX11_listeners [(.ref (cw_z g + 0)), (.int x1)] (hp g I A J t) (some (.int (px_X11_listeners_0 n I A J t x1))) (hp g I A J t) := by
  unfold pb_X11_listeners_0 at hb
  unfold px_X11_listeners_0
  refine Cd.of rfl (Nat.le_of_ble_eq_true rfl) (ev_gen (fun Q hQ => ?_))
  refine ev_aload_n (pc := 0) dX11_listeners_0 rfl ?_
  refine tv_getr (pc := 1) (d := 53) dX11_listeners_1 fl_X11_81 (by decide) rfl rfl ?_
  refine tv_geti (pc := 4) dX11_listeners_4 fl_X11_249 (by decide) rfl rfl ?_
  have hF_7 := hb
  refine ev_cut (pj := 29) (Lj := [some (.ref (cw_z g + 0)), some (.int x1)]) (stj := [(.int (qs0m7_X11_listeners_0 n I A J t x1))]) (σj := hp g I A J t) ?_ (fun hJ_7 => ?_)
  rotate_left
  · refine ev_if_eq (pc := 7) (tgt := 28) dX11_listeners_7 (by decide) (fun c_7 => ?_) (fun c_7 => ?_)
    · refine ev_iconst (pc := 28) (v := (-1)) dX11_listeners_28 (by decide) ?_
      simp only [qs0m7_X11_listeners_0, if_pos c_7] at hJ_7
      exact ev_loc hJ_7 cw_le0
    · have hb := hF_7 c_7
      refine ev_iload_n (pc := 10) dX11_listeners_10 rfl ?_
      refine ev_Si (pc := 11) dX11_listeners_11 lk_X11_146 cd_X11_isHour ar_X11_isHour ⟨by decide, rfl, rfl⟩ (cv_X11_isHour g n I A J t x1) rfl rfl (Nat.le_of_ble_eq_true rfl) ⟨by decide, by decide⟩ ?_
      have hF_14 := hb
      refine ev_cut (pj := 29) (Lj := [some (.ref (cw_z g + 0)), some (.int x1)]) (stj := [(.int (qs0m14_X11_listeners_0 n I A J t x1))]) (σj := hp g I A J t) ?_ (fun hJ_14 => ?_)
      rotate_left
      · refine ev_if_eq (pc := 14) (tgt := 28) dX11_listeners_14 (by decide) (fun c_14 => ?_) (fun c_14 => ?_)
        · refine ev_iconst (pc := 28) (v := (-1)) dX11_listeners_28 (by decide) ?_
          simp only [qs0m14_X11_listeners_0, if_pos c_14] at hJ_14
          exact ev_loc hJ_14 cw_le0
        · have hb := hF_14 c_14
          refine ev_aload_n (pc := 17) dX11_listeners_17 rfl ?_
          refine tv_getr (pc := 18) (d := 53) dX11_listeners_18 fl_X11_81 (by decide) rfl rfl ?_
          refine ev_iload_n (pc := 21) dX11_listeners_21 rfl ?_
          refine ev_Vi (pc := 22) dX11_listeners_22 lk_X11_231 cd_X5_listenersIn ar_X5_listenersIn ⟨by decide, rfl, rfl⟩ (cv_X5_listenersIn_53 g n I A J t x1 hb) (show 53 < 120 by decide) rfl rfl rfl rfl (Nat.le_of_ble_eq_true rfl) ⟨by decide, by decide⟩ ?_
          refine ev_goto (pc := 25) (tgt := 29) dX11_listeners_25 (by decide) ?_
          simp only [qs0m14_X11_listeners_0, if_neg c_14] at hJ_14
          exact ev_loc hJ_14 cw_le0
      simp only [qs0m7_X11_listeners_0, if_neg c_7] at hJ_7
      exact ev_loc hJ_7 cw_le0
  exact ev_iret (pc := 29) dX11_listeners_29 rfl (by decide) (by decide) (hQ _ _ ⟨rfl, rfl⟩)
