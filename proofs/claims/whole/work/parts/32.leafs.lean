def qs0m9_X2_has_9 (n : Nat) (I : Nat → Nat → Int32) (A : Nat → Nat → Int32) (J : Nat → Nat → Int64) (t : Bool × Bool) (x1 : Int32) : Int32 := if (I 9 2) ≤ x1 then 0 else 1
def qs0m1_X2_has_9 (n : Nat) (I : Nat → Nat → Int32) (A : Nat → Nat → Int32) (J : Nat → Nat → Int64) (t : Bool × Bool) (x1 : Int32) : Int32 := if x1 < 0 then 0 else (qs0m9_X2_has_9 n I A J t x1)
def px_X2_has_9 (n : Nat) (I : Nat → Nat → Int32) (A : Nat → Nat → Int32) (J : Nat → Nat → Int64) (t : Bool × Bool) (x1 : Int32) : Int32 := (qs0m1_X2_has_9 n I A J t x1)
set_option maxRecDepth 100000 in
set_option maxHeartbeats 4000000 in
theorem cv_X2_has_9 (g : cw_G) (n : Nat) (I : Nat → Nat → Int32) (A : Nat → Nat → Int32) (J : Nat → Nat → Int64) (t : Bool × Bool) (x1 : Int32) : Cd g mX2_has [(.ref (cw_z g + 9)), (.int x1)] (hp g I A J t) (some (.int (px_X2_has_9 n I A J t x1))) (hp g I A J t) := by
  unfold px_X2_has_9
  refine Cd.of rfl (Nat.le_of_ble_eq_true rfl) (ev_gen (fun Q hQ => ?_))
  refine ev_iload_n (pc := 0) dX2_has_0 rfl ?_
  refine ev_cut (pj := 17) (Lj := [some (.ref (cw_z g + 9)), some (.int x1)]) (stj := [(.int (qs0m1_X2_has_9 n I A J t x1))]) (σj := hp g I A J t) ?_ (fun hJ_1 => ?_)
  rotate_left
  · refine ev_if_lt (pc := 1) (tgt := 16) dX2_has_1 (by decide) (fun c_1 => ?_) (fun c_1 => ?_)
    · refine ev_iconst (pc := 16) (v := 0) dX2_has_16 (by decide) ?_
      simp only [qs0m1_X2_has_9, if_pos c_1] at hJ_1
      exact ev_loc hJ_1 cw_le0
    · refine ev_iload_n (pc := 4) dX2_has_4 rfl ?_
      refine ev_aload_n (pc := 5) dX2_has_5 rfl ?_
      refine tv_geti (pc := 6) dX2_has_6 fl_X2_18 (by decide) rfl rfl ?_
      refine ev_cut (pj := 17) (Lj := [some (.ref (cw_z g + 9)), some (.int x1)]) (stj := [(.int (qs0m9_X2_has_9 n I A J t x1))]) (σj := hp g I A J t) ?_ (fun hJ_9 => ?_)
      rotate_left
      · refine ev_icmp_ge (pc := 9) (tgt := 16) dX2_has_9 (by decide) (fun c_9 => ?_) (fun c_9 => ?_)
        · refine ev_iconst (pc := 16) (v := 0) dX2_has_16 (by decide) ?_
          simp only [qs0m9_X2_has_9, if_pos c_9] at hJ_9
          exact ev_loc hJ_9 cw_le0
        · refine ev_iconst (pc := 12) (v := 1) dX2_has_12 (by decide) ?_
          refine ev_goto (pc := 13) (tgt := 17) dX2_has_13 (by decide) ?_
          simp only [qs0m9_X2_has_9, if_neg c_9] at hJ_9
          exact ev_loc hJ_9 cw_le0
      simp only [qs0m1_X2_has_9, if_neg c_1] at hJ_1
      exact ev_loc hJ_1 cw_le0
  exact ev_zret (pc := 17) dX2_has_17 rfl (cw_nz (cw_ite (Or.inl rfl) (cw_ite (Or.inl rfl) (Or.inr rfl)))) (by decide) (by decide) (hQ _ _ ⟨rfl, rfl⟩)

theorem z1_X2_has_9 (n : Nat) (I : Nat → Nat → Int32) (A : Nat → Nat → Int32) (J : Nat → Nat → Int64) (t : Bool × Bool) (x1 : Int32) : px_X2_has_9 n I A J t x1 = 0 ∨ px_X2_has_9 n I A J t x1 = 1 := (cw_ite (Or.inl rfl) (cw_ite (Or.inl rfl) (Or.inr rfl)))

def qA20_X2_add_9 (n : Nat) (I : Nat → Nat → Int32) (A : Nat → Nat → Int32) (J : Nat → Nat → Int64) (t : Bool × Bool) (x1 : Int32) (x2 : Int32) : Nat → Nat → Int32 := cw_u A 10 ((I 9 2)).toNatClampNeg x1
def qA30_X2_add_9 (n : Nat) (I : Nat → Nat → Int32) (A : Nat → Nat → Int32) (J : Nat → Nat → Int64) (t : Bool × Bool) (x1 : Int32) (x2 : Int32) : Nat → Nat → Int32 := cw_u (qA20_X2_add_9 n I A J t x1 x2) 11 ((I 9 2)).toNatClampNeg x2
def qI38_X2_add_9 (n : Nat) (I : Nat → Nat → Int32) (A : Nat → Nat → Int32) (J : Nat → Nat → Int64) (t : Bool × Bool) (x1 : Int32) (x2 : Int32) : Nat → Nat → Int32 := cw_u I 9 2 ((I 9 2) + 1)
def pb_X2_add_9 (n : Nat) (I : Nat → Nat → Int32) (A : Nat → Nat → Int32) (J : Nat → Nat → Int64) (t : Bool × Bool) (x1 : Int32) (x2 : Int32) : Prop := ((I 9 2) < 6 → vp_in (I 9 2) 6 ∧ vp_in (I 9 2) 6)
def px_X2_add_9 (n : Nat) (I : Nat → Nat → Int32) (A : Nat → Nat → Int32) (J : Nat → Nat → Int64) (t : Bool × Bool) (x1 : Int32) (x2 : Int32) : Int32 := (if (I 9 2) < 6 then (((qI38_X2_add_9 n I A J t x1 x2) 9 2) - 1) else (-1))
def pI_X2_add_9 (n : Nat) (I : Nat → Nat → Int32) (A : Nat → Nat → Int32) (J : Nat → Nat → Int64) (t : Bool × Bool) (x1 : Int32) (x2 : Int32) : Nat → Nat → Int32 := (if (I 9 2) < 6 then (qI38_X2_add_9 n I A J t x1 x2) else I)
def pA_X2_add_9 (n : Nat) (I : Nat → Nat → Int32) (A : Nat → Nat → Int32) (J : Nat → Nat → Int64) (t : Bool × Bool) (x1 : Int32) (x2 : Int32) : Nat → Nat → Int32 := (if (I 9 2) < 6 then (qA30_X2_add_9 n I A J t x1 x2) else A)
set_option maxRecDepth 100000 in
set_option maxHeartbeats 4000000 in
theorem cv_X2_add_9 (g : cw_G) (n : Nat) (I : Nat → Nat → Int32) (A : Nat → Nat → Int32) (J : Nat → Nat → Int64) (t : Bool × Bool) (x1 : Int32) (x2 : Int32) (hb : pb_X2_add_9 n I A J t x1 x2) : Cd g mX2_add [(.ref (cw_z g + 9)), (.int x1), (.int x2)] (hp g I A J t) (some (.int (px_X2_add_9 n I A J t x1 x2))) (hp g (pI_X2_add_9 n I A J t x1 x2) (pA_X2_add_9 n I A J t x1 x2) J t) := by
  unfold pb_X2_add_9 at hb
  unfold px_X2_add_9 pI_X2_add_9 pA_X2_add_9
  refine Cd.of rfl (Nat.le_of_ble_eq_true rfl) (ev_gen (fun Q hQ => ?_))
  refine ev_aload_n (pc := 0) dX2_add_0 rfl ?_
  refine tv_geti (pc := 1) dX2_add_1 fl_X2_18 (by decide) rfl rfl ?_
  refine ev_bipush (pc := 4) (v := 6) dX2_add_4 (by decide) ?_
  have hT_6 := hb
  refine ev_icmp_lt (pc := 6) (tgt := 11) dX2_add_6 (by decide) (fun c_6 => ?_) (fun c_6 => ?_)
  · have hb := hT_6 c_6
    try simp only [if_pos c_6] at hQ
    refine ev_aload_n (pc := 11) dX2_add_11 rfl ?_
    refine tv_getr (pc := 12) (d := 10) dX2_add_12 fl_X2_9 (by decide) rfl rfl ?_
    refine ev_aload_n (pc := 15) dX2_add_15 rfl ?_
    refine tv_geti (pc := 16) dX2_add_16 fl_X2_18 (by decide) rfl rfl ?_
    refine ev_iload_n (pc := 19) dX2_add_19 rfl ?_
    refine tw_iast (pc := 20) (A2 := (qA20_X2_add_9 n I A J t x1 x2)) dX2_add_20 (by decide) rfl hb.1 rfl ?_
    replace hb := hb.2
    refine ev_aload_n (pc := 21) dX2_add_21 rfl ?_
    refine tv_getr (pc := 22) (d := 11) dX2_add_22 fl_X2_15 (by decide) rfl rfl ?_
    refine ev_aload_n (pc := 25) dX2_add_25 rfl ?_
    refine tv_geti (pc := 26) dX2_add_26 fl_X2_18 (by decide) rfl rfl ?_
    refine ev_iload_n (pc := 29) dX2_add_29 rfl ?_
    refine tw_iast (pc := 30) (A2 := (qA30_X2_add_9 n I A J t x1 x2)) dX2_add_30 (by decide) rfl hb rfl ?_
    refine ev_aload_n (pc := 31) dX2_add_31 rfl ?_
    refine ev_dup (pc := 32) dX2_add_32 rfl ?_
    refine tv_geti (pc := 33) dX2_add_33 fl_X2_18 (by decide) rfl rfl ?_
    refine ev_iconst (pc := 36) (v := 1) dX2_add_36 (by decide) ?_
    refine ev_iadd (pc := 37) dX2_add_37 ?_
    refine tw_puti (pc := 38) (I2 := (qI38_X2_add_9 n I A J t x1 x2)) dX2_add_38 fp_X2_18 (by decide) rfl rfl rfl ?_
    refine ev_aload_n (pc := 41) dX2_add_41 rfl ?_
    refine tv_geti (pc := 42) dX2_add_42 fl_X2_18 (by decide) rfl rfl ?_
    refine ev_iconst (pc := 45) (v := 1) dX2_add_45 (by decide) ?_
    refine ev_isub (pc := 46) dX2_add_46 ?_
    exact ev_iret (pc := 47) dX2_add_47 rfl (by decide) (by decide) (hQ _ _ ⟨rfl, rfl⟩)
  · try simp only [if_neg c_6] at hQ
    refine ev_iconst (pc := 9) (v := (-1)) dX2_add_9 (by decide) ?_
    exact ev_iret (pc := 10) dX2_add_10 rfl (by decide) (by decide) (hQ _ _ ⟨rfl, rfl⟩)

def pb_X2_siteOf_9 (n : Nat) (I : Nat → Nat → Int32) (A : Nat → Nat → Int32) (J : Nat → Nat → Int64) (t : Bool × Bool) (x1 : Int32) : Prop := vp_in x1 6
def px_X2_siteOf_9 (n : Nat) (I : Nat → Nat → Int32) (A : Nat → Nat → Int32) (J : Nat → Nat → Int64) (t : Bool × Bool) (x1 : Int32) : Int32 := (A 10 (x1).toNatClampNeg)
set_option maxRecDepth 100000 in
set_option maxHeartbeats 4000000 in
theorem cv_X2_siteOf_9 (g : cw_G) (n : Nat) (I : Nat → Nat → Int32) (A : Nat → Nat → Int32) (J : Nat → Nat → Int64) (t : Bool × Bool) (x1 : Int32) (hb : pb_X2_siteOf_9 n I A J t x1) : Cd g mX2_siteOf [(.ref (cw_z g + 9)), (.int x1)] (hp g I A J t) (some (.int (px_X2_siteOf_9 n I A J t x1))) (hp g I A J t) := by
  unfold pb_X2_siteOf_9 at hb
  unfold px_X2_siteOf_9
  refine Cd.of rfl (Nat.le_of_ble_eq_true rfl) (ev_gen (fun Q hQ => ?_))
  refine ev_aload_n (pc := 0) dX2_siteOf_0 rfl ?_
  refine tv_getr (pc := 1) (d := 10) dX2_siteOf_1 fl_X2_9 (by decide) rfl rfl ?_
  refine ev_iload_n (pc := 4) dX2_siteOf_4 rfl ?_
  refine ev_iald (pc := 5) dX2_siteOf_5 (by decide) rfl hb ?_
  exact ev_iret (pc := 6) dX2_siteOf_6 rfl (by decide) (by decide) (hQ _ _ ⟨rfl, rfl⟩)

def pb_X2_powerOf_9 (n : Nat) (I : Nat → Nat → Int32) (A : Nat → Nat → Int32) (J : Nat → Nat → Int64) (t : Bool × Bool) (x1 : Int32) : Prop := vp_in x1 6
def px_X2_powerOf_9 (n : Nat) (I : Nat → Nat → Int32) (A : Nat → Nat → Int32) (J : Nat → Nat → Int64) (t : Bool × Bool) (x1 : Int32) : Int32 := (A 11 (x1).toNatClampNeg)
set_option maxRecDepth 100000 in
set_option maxHeartbeats 4000000 in
theorem cv_X2_powerOf_9 (g : cw_G) (n : Nat) (I : Nat → Nat → Int32) (A : Nat → Nat → Int32) (J : Nat → Nat → Int64) (t : Bool × Bool) (x1 : Int32) (hb : pb_X2_powerOf_9 n I A J t x1) : Cd g mX2_powerOf [(.ref (cw_z g + 9)), (.int x1)] (hp g I A J t) (some (.int (px_X2_powerOf_9 n I A J t x1))) (hp g I A J t) := by
  unfold pb_X2_powerOf_9 at hb
  unfold px_X2_powerOf_9
  refine Cd.of rfl (Nat.le_of_ble_eq_true rfl) (ev_gen (fun Q hQ => ?_))
  refine ev_aload_n (pc := 0) dX2_powerOf_0 rfl ?_
  refine tv_getr (pc := 1) (d := 11) dX2_powerOf_1 fl_X2_15 (by decide) rfl rfl ?_
  refine ev_iload_n (pc := 4) dX2_powerOf_4 rfl ?_
  refine ev_iald (pc := 5) dX2_powerOf_5 (by decide) rfl hb ?_
  exact ev_iret (pc := 6) dX2_powerOf_6 rfl (by decide) (by decide) (hQ _ _ ⟨rfl, rfl⟩)

def qA20_X6_add_12 (n : Nat) (I : Nat → Nat → Int32) (A : Nat → Nat → Int32) (J : Nat → Nat → Int64) (t : Bool × Bool) (x1 : Int32) (x2 : Int32) (x3 : Int32) : Nat → Nat → Int32 := cw_u A 13 ((I 12 3)).toNatClampNeg x1
def qA30_X6_add_12 (n : Nat) (I : Nat → Nat → Int32) (A : Nat → Nat → Int32) (J : Nat → Nat → Int64) (t : Bool × Bool) (x1 : Int32) (x2 : Int32) (x3 : Int32) : Nat → Nat → Int32 := cw_u (qA20_X6_add_12 n I A J t x1 x2 x3) 14 ((I 12 3)).toNatClampNeg x2
def qA40_X6_add_12 (n : Nat) (I : Nat → Nat → Int32) (A : Nat → Nat → Int32) (J : Nat → Nat → Int64) (t : Bool × Bool) (x1 : Int32) (x2 : Int32) (x3 : Int32) : Nat → Nat → Int32 := cw_u (qA30_X6_add_12 n I A J t x1 x2 x3) 15 ((I 12 3)).toNatClampNeg x3
def qI48_X6_add_12 (n : Nat) (I : Nat → Nat → Int32) (A : Nat → Nat → Int32) (J : Nat → Nat → Int64) (t : Bool × Bool) (x1 : Int32) (x2 : Int32) (x3 : Int32) : Nat → Nat → Int32 := cw_u I 12 3 ((I 12 3) + 1)
def pb_X6_add_12 (n : Nat) (I : Nat → Nat → Int32) (A : Nat → Nat → Int32) (J : Nat → Nat → Int64) (t : Bool × Bool) (x1 : Int32) (x2 : Int32) (x3 : Int32) : Prop := ((I 12 3) < 10 → vp_in (I 12 3) 10 ∧ vp_in (I 12 3) 10 ∧ vp_in (I 12 3) 10)
def px_X6_add_12 (n : Nat) (I : Nat → Nat → Int32) (A : Nat → Nat → Int32) (J : Nat → Nat → Int64) (t : Bool × Bool) (x1 : Int32) (x2 : Int32) (x3 : Int32) : Int32 := (if (I 12 3) < 10 then (((qI48_X6_add_12 n I A J t x1 x2 x3) 12 3) - 1) else (-1))
def pI_X6_add_12 (n : Nat) (I : Nat → Nat → Int32) (A : Nat → Nat → Int32) (J : Nat → Nat → Int64) (t : Bool × Bool) (x1 : Int32) (x2 : Int32) (x3 : Int32) : Nat → Nat → Int32 := (if (I 12 3) < 10 then (qI48_X6_add_12 n I A J t x1 x2 x3) else I)
def pA_X6_add_12 (n : Nat) (I : Nat → Nat → Int32) (A : Nat → Nat → Int32) (J : Nat → Nat → Int64) (t : Bool × Bool) (x1 : Int32) (x2 : Int32) (x3 : Int32) : Nat → Nat → Int32 := (if (I 12 3) < 10 then (qA40_X6_add_12 n I A J t x1 x2 x3) else A)
set_option maxRecDepth 100000 in
set_option maxHeartbeats 4000000 in
theorem cv_X6_add_12 (g : cw_G) (n : Nat) (I : Nat → Nat → Int32) (A : Nat → Nat → Int32) (J : Nat → Nat → Int64) (t : Bool × Bool) (x1 : Int32) (x2 : Int32) (x3 : Int32) (hb : pb_X6_add_12 n I A J t x1 x2 x3) : Cd g mX6_add [(.ref (cw_z g + 12)), (.int x1), (.int x2), (.int x3)] (hp g I A J t) (some (.int (px_X6_add_12 n I A J t x1 x2 x3))) (hp g (pI_X6_add_12 n I A J t x1 x2 x3) (pA_X6_add_12 n I A J t x1 x2 x3) J t) := by
  unfold pb_X6_add_12 at hb
  unfold px_X6_add_12 pI_X6_add_12 pA_X6_add_12
  refine Cd.of rfl (Nat.le_of_ble_eq_true rfl) (ev_gen (fun Q hQ => ?_))
  refine ev_aload_n (pc := 0) dX6_add_0 rfl ?_
  refine tv_geti (pc := 1) dX6_add_1 fl_X6_21 (by decide) rfl rfl ?_
  refine ev_bipush (pc := 4) (v := 10) dX6_add_4 (by decide) ?_
  have hT_6 := hb
  refine ev_icmp_lt (pc := 6) (tgt := 11) dX6_add_6 (by decide) (fun c_6 => ?_) (fun c_6 => ?_)
  · have hb := hT_6 c_6
    try simp only [if_pos c_6] at hQ
    refine ev_aload_n (pc := 11) dX6_add_11 rfl ?_
    refine tv_getr (pc := 12) (d := 13) dX6_add_12 fl_X6_9 (by decide) rfl rfl ?_
    refine ev_aload_n (pc := 15) dX6_add_15 rfl ?_
    refine tv_geti (pc := 16) dX6_add_16 fl_X6_21 (by decide) rfl rfl ?_
    refine ev_iload_n (pc := 19) dX6_add_19 rfl ?_
    refine tw_iast (pc := 20) (A2 := (qA20_X6_add_12 n I A J t x1 x2 x3)) dX6_add_20 (by decide) rfl hb.1 rfl ?_
    replace hb := hb.2
    refine ev_aload_n (pc := 21) dX6_add_21 rfl ?_
    refine tv_getr (pc := 22) (d := 14) dX6_add_22 fl_X6_15 (by decide) rfl rfl ?_
    refine ev_aload_n (pc := 25) dX6_add_25 rfl ?_
    refine tv_geti (pc := 26) dX6_add_26 fl_X6_21 (by decide) rfl rfl ?_
    refine ev_iload_n (pc := 29) dX6_add_29 rfl ?_
    refine tw_iast (pc := 30) (A2 := (qA30_X6_add_12 n I A J t x1 x2 x3)) dX6_add_30 (by decide) rfl hb.1 rfl ?_
    replace hb := hb.2
    refine ev_aload_n (pc := 31) dX6_add_31 rfl ?_
    refine tv_getr (pc := 32) (d := 15) dX6_add_32 fl_X6_18 (by decide) rfl rfl ?_
    refine ev_aload_n (pc := 35) dX6_add_35 rfl ?_
    refine tv_geti (pc := 36) dX6_add_36 fl_X6_21 (by decide) rfl rfl ?_
    refine ev_iload_n (pc := 39) dX6_add_39 rfl ?_
    refine tw_iast (pc := 40) (A2 := (qA40_X6_add_12 n I A J t x1 x2 x3)) dX6_add_40 (by decide) rfl hb rfl ?_
    refine ev_aload_n (pc := 41) dX6_add_41 rfl ?_
    refine ev_dup (pc := 42) dX6_add_42 rfl ?_
    refine tv_geti (pc := 43) dX6_add_43 fl_X6_21 (by decide) rfl rfl ?_
    refine ev_iconst (pc := 46) (v := 1) dX6_add_46 (by decide) ?_
    refine ev_iadd (pc := 47) dX6_add_47 ?_
    refine tw_puti (pc := 48) (I2 := (qI48_X6_add_12 n I A J t x1 x2 x3)) dX6_add_48 fp_X6_21 (by decide) rfl rfl rfl ?_
    refine ev_aload_n (pc := 51) dX6_add_51 rfl ?_
    refine tv_geti (pc := 52) dX6_add_52 fl_X6_21 (by decide) rfl rfl ?_
    refine ev_iconst (pc := 55) (v := 1) dX6_add_55 (by decide) ?_
    refine ev_isub (pc := 56) dX6_add_56 ?_
    exact ev_iret (pc := 57) dX6_add_57 rfl (by decide) (by decide) (hQ _ _ ⟨rfl, rfl⟩)
  · try simp only [if_neg c_6] at hQ
    refine ev_iconst (pc := 9) (v := (-1)) dX6_add_9 (by decide) ?_
    exact ev_iret (pc := 10) dX6_add_10 rfl (by decide) (by decide) (hQ _ _ ⟨rfl, rfl⟩)

def pb_X6_landOf_12 (n : Nat) (I : Nat → Nat → Int32) (A : Nat → Nat → Int32) (J : Nat → Nat → Int64) (t : Bool × Bool) (x1 : Int32) : Prop := vp_in x1 10
def px_X6_landOf_12 (n : Nat) (I : Nat → Nat → Int32) (A : Nat → Nat → Int32) (J : Nat → Nat → Int64) (t : Bool × Bool) (x1 : Int32) : Int32 := (A 13 (x1).toNatClampNeg)
set_option maxRecDepth 100000 in
set_option maxHeartbeats 4000000 in
theorem cv_X6_landOf_12 (g : cw_G) (n : Nat) (I : Nat → Nat → Int32) (A : Nat → Nat → Int32) (J : Nat → Nat → Int64) (t : Bool × Bool) (x1 : Int32) (hb : pb_X6_landOf_12 n I A J t x1) : Cd g mX6_landOf [(.ref (cw_z g + 12)), (.int x1)] (hp g I A J t) (some (.int (px_X6_landOf_12 n I A J t x1))) (hp g I A J t) := by
  unfold pb_X6_landOf_12 at hb
  unfold px_X6_landOf_12
  refine Cd.of rfl (Nat.le_of_ble_eq_true rfl) (ev_gen (fun Q hQ => ?_))
  refine ev_aload_n (pc := 0) dX6_landOf_0 rfl ?_
  refine tv_getr (pc := 1) (d := 13) dX6_landOf_1 fl_X6_9 (by decide) rfl rfl ?_
  refine ev_iload_n (pc := 4) dX6_landOf_4 rfl ?_
  refine ev_iald (pc := 5) dX6_landOf_5 (by decide) rfl hb ?_
  exact ev_iret (pc := 6) dX6_landOf_6 rfl (by decide) (by decide) (hQ _ _ ⟨rfl, rfl⟩)

def qs0m17_X6_isOn_12 (n : Nat) (I : Nat → Nat → Int32) (A : Nat → Nat → Int32) (J : Nat → Nat → Int64) (t : Bool × Bool) (x1 : Int32) (x2 : Int32) : Int32 := if (A 15 (x1).toNatClampNeg) ≤ x2 then 0 else 1
def qs0m7_X6_isOn_12 (n : Nat) (I : Nat → Nat → Int32) (A : Nat → Nat → Int32) (J : Nat → Nat → Int64) (t : Bool × Bool) (x1 : Int32) (x2 : Int32) : Int32 := if x2 < (A 14 (x1).toNatClampNeg) then 0 else (qs0m17_X6_isOn_12 n I A J t x1 x2)
def pb_X6_isOn_12 (n : Nat) (I : Nat → Nat → Int32) (A : Nat → Nat → Int32) (J : Nat → Nat → Int64) (t : Bool × Bool) (x1 : Int32) (x2 : Int32) : Prop := vp_in x1 10 ∧ (¬ x2 < (A 14 (x1).toNatClampNeg) → vp_in x1 10)
def px_X6_isOn_12 (n : Nat) (I : Nat → Nat → Int32) (A : Nat → Nat → Int32) (J : Nat → Nat → Int64) (t : Bool × Bool) (x1 : Int32) (x2 : Int32) : Int32 := (qs0m7_X6_isOn_12 n I A J t x1 x2)
set_option maxRecDepth 100000 in
set_option maxHeartbeats 4000000 in
theorem cv_X6_isOn_12 (g : cw_G) (n : Nat) (I : Nat → Nat → Int32) (A : Nat → Nat → Int32) (J : Nat → Nat → Int64) (t : Bool × Bool) (x1 : Int32) (x2 : Int32) (hb : pb_X6_isOn_12 n I A J t x1 x2) : Cd g mX6_isOn [(.ref (cw_z g + 12)), (.int x1), (.int x2)] (hp g I A J t) (some (.int (px_X6_isOn_12 n I A J t x1 x2))) (hp g I A J t) := by
  unfold pb_X6_isOn_12 at hb
  unfold px_X6_isOn_12
  refine Cd.of rfl (Nat.le_of_ble_eq_true rfl) (ev_gen (fun Q hQ => ?_))
  refine ev_iload_n (pc := 0) dX6_isOn_0 rfl ?_
  refine ev_aload_n (pc := 1) dX6_isOn_1 rfl ?_
  refine tv_getr (pc := 2) (d := 14) dX6_isOn_2 fl_X6_15 (by decide) rfl rfl ?_
  refine ev_iload_n (pc := 5) dX6_isOn_5 rfl ?_
  refine ev_iald (pc := 6) dX6_isOn_6 (by decide) rfl hb.1 ?_
  replace hb := hb.2
  have hF_7 := hb
  refine ev_cut (pj := 25) (Lj := [some (.ref (cw_z g + 12)), some (.int x1), some (.int x2)]) (stj := [(.int (qs0m7_X6_isOn_12 n I A J t x1 x2))]) (σj := hp g I A J t) ?_ (fun hJ_7 => ?_)
  rotate_left
  · refine ev_icmp_lt (pc := 7) (tgt := 24) dX6_isOn_7 (by decide) (fun c_7 => ?_) (fun c_7 => ?_)
    · refine ev_iconst (pc := 24) (v := 0) dX6_isOn_24 (by decide) ?_
      simp only [qs0m7_X6_isOn_12, if_pos c_7] at hJ_7
      exact ev_loc hJ_7 cw_le0
    · have hb := hF_7 c_7
      refine ev_iload_n (pc := 10) dX6_isOn_10 rfl ?_
      refine ev_aload_n (pc := 11) dX6_isOn_11 rfl ?_
      refine tv_getr (pc := 12) (d := 15) dX6_isOn_12 fl_X6_18 (by decide) rfl rfl ?_
      refine ev_iload_n (pc := 15) dX6_isOn_15 rfl ?_
      refine ev_iald (pc := 16) dX6_isOn_16 (by decide) rfl hb ?_
      refine ev_cut (pj := 25) (Lj := [some (.ref (cw_z g + 12)), some (.int x1), some (.int x2)]) (stj := [(.int (qs0m17_X6_isOn_12 n I A J t x1 x2))]) (σj := hp g I A J t) ?_ (fun hJ_17 => ?_)
      rotate_left
      · refine ev_icmp_ge (pc := 17) (tgt := 24) dX6_isOn_17 (by decide) (fun c_17 => ?_) (fun c_17 => ?_)
        · refine ev_iconst (pc := 24) (v := 0) dX6_isOn_24 (by decide) ?_
          simp only [qs0m17_X6_isOn_12, if_pos c_17] at hJ_17
          exact ev_loc hJ_17 cw_le0
        · refine ev_iconst (pc := 20) (v := 1) dX6_isOn_20 (by decide) ?_
          refine ev_goto (pc := 21) (tgt := 25) dX6_isOn_21 (by decide) ?_
          simp only [qs0m17_X6_isOn_12, if_neg c_17] at hJ_17
          exact ev_loc hJ_17 cw_le0
      simp only [qs0m7_X6_isOn_12, if_neg c_7] at hJ_7
      exact ev_loc hJ_7 cw_le0
  exact ev_zret (pc := 25) dX6_isOn_25 rfl (cw_nz (cw_ite (Or.inl rfl) (cw_ite (Or.inl rfl) (Or.inr rfl)))) (by decide) (by decide) (hQ _ _ ⟨rfl, rfl⟩)

theorem z1_X6_isOn_12 (n : Nat) (I : Nat → Nat → Int32) (A : Nat → Nat → Int32) (J : Nat → Nat → Int64) (t : Bool × Bool) (x1 : Int32) (x2 : Int32) : px_X6_isOn_12 n I A J t x1 x2 = 0 ∨ px_X6_isOn_12 n I A J t x1 x2 = 1 := (cw_ite (Or.inl rfl) (cw_ite (Or.inl rfl) (Or.inr rfl)))

def qs0m11_X8_has_16 (n : Nat) (I : Nat → Nat → Int32) (A : Nat → Nat → Int32) (J : Nat → Nat → Int64) (t : Bool × Bool) (x1 : Int32) (x2 : Int32) : Int32 := if (A 18 (x1).toNatClampNeg) ≤ x2 then 0 else 1
def qs0m1_X8_has_16 (n : Nat) (I : Nat → Nat → Int32) (A : Nat → Nat → Int32) (J : Nat → Nat → Int64) (t : Bool × Bool) (x1 : Int32) (x2 : Int32) : Int32 := if x2 < 0 then 0 else (qs0m11_X8_has_16 n I A J t x1 x2)
def pb_X8_has_16 (n : Nat) (I : Nat → Nat → Int32) (A : Nat → Nat → Int32) (J : Nat → Nat → Int64) (t : Bool × Bool) (x1 : Int32) (x2 : Int32) : Prop := (¬ x2 < 0 → vp_in x1 4)
def px_X8_has_16 (n : Nat) (I : Nat → Nat → Int32) (A : Nat → Nat → Int32) (J : Nat → Nat → Int64) (t : Bool × Bool) (x1 : Int32) (x2 : Int32) : Int32 := (qs0m1_X8_has_16 n I A J t x1 x2)
set_option maxRecDepth 100000 in
set_option maxHeartbeats 4000000 in
theorem cv_X8_has_16 (g : cw_G) (n : Nat) (I : Nat → Nat → Int32) (A : Nat → Nat → Int32) (J : Nat → Nat → Int64) (t : Bool × Bool) (x1 : Int32) (x2 : Int32) (hb : pb_X8_has_16 n I A J t x1 x2) : Cd g mX8_has [(.ref (cw_z g + 16)), (.int x1), (.int x2)] (hp g I A J t) (some (.int (px_X8_has_16 n I A J t x1 x2))) (hp g I A J t) := by
  unfold pb_X8_has_16 at hb
  unfold px_X8_has_16
  refine Cd.of rfl (Nat.le_of_ble_eq_true rfl) (ev_gen (fun Q hQ => ?_))
  refine ev_iload_n (pc := 0) dX8_has_0 rfl ?_
  have hF_1 := hb
  refine ev_cut (pj := 19) (Lj := [some (.ref (cw_z g + 16)), some (.int x1), some (.int x2)]) (stj := [(.int (qs0m1_X8_has_16 n I A J t x1 x2))]) (σj := hp g I A J t) ?_ (fun hJ_1 => ?_)
  rotate_left
  · refine ev_if_lt (pc := 1) (tgt := 18) dX8_has_1 (by decide) (fun c_1 => ?_) (fun c_1 => ?_)
    · refine ev_iconst (pc := 18) (v := 0) dX8_has_18 (by decide) ?_
      simp only [qs0m1_X8_has_16, if_pos c_1] at hJ_1
      exact ev_loc hJ_1 cw_le0
    · have hb := hF_1 c_1
      refine ev_iload_n (pc := 4) dX8_has_4 rfl ?_
      refine ev_aload_n (pc := 5) dX8_has_5 rfl ?_
      refine tv_getr (pc := 6) (d := 18) dX8_has_6 fl_X8_15 (by decide) rfl rfl ?_
      refine ev_iload_n (pc := 9) dX8_has_9 rfl ?_
      refine ev_iald (pc := 10) dX8_has_10 (by decide) rfl hb ?_
      refine ev_cut (pj := 19) (Lj := [some (.ref (cw_z g + 16)), some (.int x1), some (.int x2)]) (stj := [(.int (qs0m11_X8_has_16 n I A J t x1 x2))]) (σj := hp g I A J t) ?_ (fun hJ_11 => ?_)
      rotate_left
      · refine ev_icmp_ge (pc := 11) (tgt := 18) dX8_has_11 (by decide) (fun c_11 => ?_) (fun c_11 => ?_)
        · refine ev_iconst (pc := 18) (v := 0) dX8_has_18 (by decide) ?_
          simp only [qs0m11_X8_has_16, if_pos c_11] at hJ_11
          exact ev_loc hJ_11 cw_le0
        · refine ev_iconst (pc := 14) (v := 1) dX8_has_14 (by decide) ?_
          refine ev_goto (pc := 15) (tgt := 19) dX8_has_15 (by decide) ?_
          simp only [qs0m11_X8_has_16, if_neg c_11] at hJ_11
          exact ev_loc hJ_11 cw_le0
      simp only [qs0m1_X8_has_16, if_neg c_1] at hJ_1
      exact ev_loc hJ_1 cw_le0
  exact ev_zret (pc := 19) dX8_has_19 rfl (cw_nz (cw_ite (Or.inl rfl) (cw_ite (Or.inl rfl) (Or.inr rfl)))) (by decide) (by decide) (hQ _ _ ⟨rfl, rfl⟩)

theorem z1_X8_has_16 (n : Nat) (I : Nat → Nat → Int32) (A : Nat → Nat → Int32) (J : Nat → Nat → Int64) (t : Bool × Bool) (x1 : Int32) (x2 : Int32) : px_X8_has_16 n I A J t x1 x2 = 0 ∨ px_X8_has_16 n I A J t x1 x2 = 1 := (cw_ite (Or.inl rfl) (cw_ite (Or.inl rfl) (Or.inr rfl)))

def qA13_X8_put_16 (n : Nat) (I : Nat → Nat → Int32) (A : Nat → Nat → Int32) (J : Nat → Nat → Int64) (t : Bool × Bool) (x1 : Int32) (x2 : Int32) (x3 : Int32) : Nat → Nat → Int32 := cw_u A 17 (((x1 * 270) + x2)).toNatClampNeg ((x3).toInt16.toInt32).toInt16.toInt32
def pb_X8_put_16 (n : Nat) (I : Nat → Nat → Int32) (A : Nat → Nat → Int32) (J : Nat → Nat → Int64) (t : Bool × Bool) (x1 : Int32) (x2 : Int32) (x3 : Int32) : Prop := vp_in ((x1 * 270) + x2) 1080
def pA_X8_put_16 (n : Nat) (I : Nat → Nat → Int32) (A : Nat → Nat → Int32) (J : Nat → Nat → Int64) (t : Bool × Bool) (x1 : Int32) (x2 : Int32) (x3 : Int32) : Nat → Nat → Int32 := (qA13_X8_put_16 n I A J t x1 x2 x3)
set_option maxRecDepth 100000 in
set_option maxHeartbeats 4000000 in
theorem cv_X8_put_16 (g : cw_G) (n : Nat) (I : Nat → Nat → Int32) (A : Nat → Nat → Int32) (J : Nat → Nat → Int64) (t : Bool × Bool) (x1 : Int32) (x2 : Int32) (x3 : Int32) (hb : pb_X8_put_16 n I A J t x1 x2 x3) : Cd g mX8_put [(.ref (cw_z g + 16)), (.int x1), (.int x2), (.int x3)] (hp g I A J t) none (hp g I (pA_X8_put_16 n I A J t x1 x2 x3) J t) := by
  unfold pb_X8_put_16 at hb
  unfold pA_X8_put_16
  refine Cd.of rfl (Nat.le_of_ble_eq_true rfl) (ev_gen (fun Q hQ => ?_))
  refine ev_aload_n (pc := 0) dX8_put_0 rfl ?_
  refine tv_getr (pc := 1) (d := 17) dX8_put_1 fl_X8_9 (by decide) rfl rfl ?_
  refine ev_iload_n (pc := 4) dX8_put_4 rfl ?_
  refine ev_sipush (pc := 5) (v := 270) dX8_put_5 (by decide) ?_
  refine ev_imul (pc := 8) dX8_put_8 ?_
  refine ev_iload_n (pc := 9) dX8_put_9 rfl ?_
  refine ev_iadd (pc := 10) dX8_put_10 ?_
  refine ev_iload_n (pc := 11) dX8_put_11 rfl ?_
  refine ev_i2s (pc := 12) dX8_put_12 ?_
  refine tw_sast (pc := 13) (A2 := (qA13_X8_put_16 n I A J t x1 x2 x3)) dX8_put_13 (by decide) rfl hb rfl ?_
  exact ev_vret (pc := 14) dX8_put_14 rfl (by decide) (by decide) (hQ _ _ ⟨rfl, rfl⟩)

def qs0m6_X8_numberAt_16 (n : Nat) (I : Nat → Nat → Int32) (A : Nat → Nat → Int32) (J : Nat → Nat → Int64) (t : Bool × Bool) (x1 : Int32) (x2 : Int32) : Int32 := if (px_X8_has_16 n I A J t x1 x2) = 0 then (-1000000) else (A 17 (((x1 * 270) + x2)).toNatClampNeg)
def pb_X8_numberAt_16 (n : Nat) (I : Nat → Nat → Int32) (A : Nat → Nat → Int32) (J : Nat → Nat → Int64) (t : Bool × Bool) (x1 : Int32) (x2 : Int32) : Prop := pb_X8_has_16 n I A J t x1 x2 ∧ (¬ (px_X8_has_16 n I A J t x1 x2) = 0 → vp_in ((x1 * 270) + x2) 1080)
def px_X8_numberAt_16 (n : Nat) (I : Nat → Nat → Int32) (A : Nat → Nat → Int32) (J : Nat → Nat → Int64) (t : Bool × Bool) (x1 : Int32) (x2 : Int32) : Int32 := (qs0m6_X8_numberAt_16 n I A J t x1 x2)
set_option maxRecDepth 100000 in
set_option maxHeartbeats 4000000 in
theorem cv_X8_numberAt_16 (g : cw_G) (n : Nat) (I : Nat → Nat → Int32) (A : Nat → Nat → Int32) (J : Nat → Nat → Int64) (t : Bool × Bool) (x1 : Int32) (x2 : Int32) (hb : pb_X8_numberAt_16 n I A J t x1 x2) : Cd g mX8_numberAt [(.ref (cw_z g + 16)), (.int x1), (.int x2)] (hp g I A J t) (some (.int (px_X8_numberAt_16 n I A J t x1 x2))) (hp g I A J t) := by
  unfold pb_X8_numberAt_16 at hb
  unfold px_X8_numberAt_16
  refine Cd.of rfl (Nat.le_of_ble_eq_true rfl) (ev_gen (fun Q hQ => ?_))
  refine ev_aload_n (pc := 0) dX8_numberAt_0 rfl ?_
  refine ev_iload_n (pc := 1) dX8_numberAt_1 rfl ?_
  refine ev_iload_n (pc := 2) dX8_numberAt_2 rfl ?_
  refine ev_Vi (pc := 3) dX8_numberAt_3 lk_X8_25 cd_X8_has ar_X8_has ⟨by decide, rfl, rfl⟩ (cv_X8_has_16 g n I A J t x1 x2 hb.1) (show 16 < 120 by decide) rfl rfl rfl rfl (Nat.le_of_ble_eq_true rfl) ⟨by decide, by decide⟩ ?_
  replace hb := hb.2
  have hF_6 := hb
  refine ev_cut (pj := 26) (Lj := [some (.ref (cw_z g + 16)), some (.int x1), some (.int x2)]) (stj := [(.int (qs0m6_X8_numberAt_16 n I A J t x1 x2))]) (σj := hp g I A J t) ?_ (fun hJ_6 => ?_)
  rotate_left
  · refine ev_if_eq (pc := 6) (tgt := 24) dX8_numberAt_6 (by decide) (fun c_6 => ?_) (fun c_6 => ?_)
    · refine ev_ldc (pc := 24) dX8_numberAt_24 ks_X8_29 ?_
      simp only [qs0m6_X8_numberAt_16, if_pos c_6] at hJ_6
      exact ev_loc hJ_6 cw_le0
    · have hb := hF_6 c_6
      refine ev_aload_n (pc := 9) dX8_numberAt_9 rfl ?_
      refine tv_getr (pc := 10) (d := 17) dX8_numberAt_10 fl_X8_9 (by decide) rfl rfl ?_
      refine ev_iload_n (pc := 13) dX8_numberAt_13 rfl ?_
      refine ev_sipush (pc := 14) (v := 270) dX8_numberAt_14 (by decide) ?_
      refine ev_imul (pc := 17) dX8_numberAt_17 ?_
      refine ev_iload_n (pc := 18) dX8_numberAt_18 rfl ?_
      refine ev_iadd (pc := 19) dX8_numberAt_19 ?_
      refine ev_sald (pc := 20) dX8_numberAt_20 (by decide) rfl hb ?_
      refine ev_goto (pc := 21) (tgt := 26) dX8_numberAt_21 (by decide) ?_
      simp only [qs0m6_X8_numberAt_16, if_neg c_6] at hJ_6
      exact ev_loc hJ_6 cw_le0
  exact ev_iret (pc := 26) dX8_numberAt_26 rfl (by decide) (by decide) (hQ _ _ ⟨rfl, rfl⟩)

def qA10_X8_renew_16 (n : Nat) (I : Nat → Nat → Int32) (A : Nat → Nat → Int32) (J : Nat → Nat → Int64) (t : Bool × Bool) (x1 : Int32) (x2 : Int32) : Nat → Nat → Int32 := cw_u A 18 (x1).toNatClampNeg (px_J9_max_7cf53 n I A J t x2 0)
def qA35_X8_renew_16 (n : Nat) (I : Nat → Nat → Int32) (A : Nat → Nat → Int32) (J : Nat → Nat → Int64) (t : Bool × Bool) (x1 : Int32) (x2 : Int32) (A13 : Nat → Nat → Int32) (v13_3 : Int32) : Nat → Nat → Int32 := cw_u A13 17 (((x1 * 270) + v13_3)).toNatClampNeg ((0 : Int32)).toInt16.toInt32
def q36_X8_renew_16 (n : Nat) (I : Nat → Nat → Int32) (A : Nat → Nat → Int32) (J : Nat → Nat → Int64) (t : Bool × Bool) (x1 : Int32) (x2 : Int32) (A13 : Nat → Nat → Int32) (v13_3 : Int32) : Int32 := v13_3 + 1
def lp_X8_renew_16_13 (n : Nat) (I : Nat → Nat → Int32) (A : Nat → Nat → Int32) (J : Nat → Nat → Int64) (t : Bool × Bool) (x1 : Int32) (x2 : Int32) : Nat → (Nat → Nat → Int32) → (Int32) → (Nat → Nat → Int32) × Int32
  | 0, A13, v13_3 => (A13, v13_3)
  | f + 1, A13, v13_3 => if (A13 18 (x1).toNatClampNeg) ≤ v13_3 then (A13, v13_3) else lp_X8_renew_16_13 n I A J t x1 x2 f (qA35_X8_renew_16 n I A J t x1 x2 A13 v13_3) (q36_X8_renew_16 n I A J t x1 x2 A13 v13_3)
def lb_X8_renew_16_13 (n : Nat) (I : Nat → Nat → Int32) (A : Nat → Nat → Int32) (J : Nat → Nat → Int64) (t : Bool × Bool) (x1 : Int32) (x2 : Int32) : Nat → (Nat → Nat → Int32) → (Int32) → Prop
  | 0, _, _ => False
  | f + 1, A13, v13_3 => vp_in x1 4 ∧ (¬ (A13 18 (x1).toNatClampNeg) ≤ v13_3 → vp_in ((x1 * 270) + v13_3) 1080 ∧ lb_X8_renew_16_13 n I A J t x1 x2 f (qA35_X8_renew_16 n I A J t x1 x2 A13 v13_3) (q36_X8_renew_16 n I A J t x1 x2 A13 v13_3))
def qAw13_X8_renew_16 (n : Nat) (I : Nat → Nat → Int32) (A : Nat → Nat → Int32) (J : Nat → Nat → Int64) (t : Bool × Bool) (x1 : Int32) (x2 : Int32) : Nat → Nat → Int32 := (lp_X8_renew_16_13 n I A J t x1 x2 n (qA10_X8_renew_16 n I A J t x1 x2) 0).1
def q3w13_X8_renew_16 (n : Nat) (I : Nat → Nat → Int32) (A : Nat → Nat → Int32) (J : Nat → Nat → Int64) (t : Bool × Bool) (x1 : Int32) (x2 : Int32) : Int32 := (lp_X8_renew_16_13 n I A J t x1 x2 n (qA10_X8_renew_16 n I A J t x1 x2) 0).2
def pb_X8_renew_16 (n : Nat) (I : Nat → Nat → Int32) (A : Nat → Nat → Int32) (J : Nat → Nat → Int64) (t : Bool × Bool) (x1 : Int32) (x2 : Int32) : Prop := vp_in x1 4 ∧ lb_X8_renew_16_13 n I A J t x1 x2 n (qA10_X8_renew_16 n I A J t x1 x2) 0
def pA_X8_renew_16 (n : Nat) (I : Nat → Nat → Int32) (A : Nat → Nat → Int32) (J : Nat → Nat → Int64) (t : Bool × Bool) (x1 : Int32) (x2 : Int32) : Nat → Nat → Int32 := (qAw13_X8_renew_16 n I A J t x1 x2)
set_option maxRecDepth 100000 in
set_option maxHeartbeats 4000000 in
theorem lt_X8_renew_16_13 (g : cw_G) (n : Nat) (I : Nat → Nat → Int32) (A : Nat → Nat → Int32) (J : Nat → Nat → Int64) (t : Bool × Bool) (x1 : Int32) (x2 : Int32) {Q : Option Value → cw_H → Prop} : ∀ (f : Nat) (A13 : Nat → Nat → Int32) (v13_3 : Int32) (w0 : Nat → Nat → Int32) (w1 : Int32), lb_X8_renew_16_13 n I A J t x1 x2 f A13 v13_3 → (lp_X8_renew_16_13 n I A J t x1 x2 f A13 v13_3).1 = w0 → (lp_X8_renew_16_13 n I A J t x1 x2 f A13 v13_3).2 = w1 → Ev g mX8_renew 0 0 42 [some (.ref (cw_z g + 16)), some (.int x1), some (.int x2), some (.int w1)] [] (hp g I w0 J t) Q → Ev g mX8_renew 0 0 13 [some (.ref (cw_z g + 16)), some (.int x1), some (.int x2), some (.int v13_3)] [] (hp g I A13 J t) Q := by
  intro f
  induction f with
  | zero =>
    intro A13 v13_3 w0 w1 hb
    exact hb.elim
  | succ f ih =>
    intro A13 v13_3 w0 w1 hb h0 h1 hE
    rw [lb_X8_renew_16_13] at hb
    rw [lp_X8_renew_16_13] at h0 h1
    refine ev_iload_n (pc := 13) dX8_renew_13 rfl ?_
    refine ev_aload_n (pc := 14) dX8_renew_14 rfl ?_
    refine tv_getr (pc := 15) (d := 18) dX8_renew_15 fl_X8_15 (by decide) rfl rfl ?_
    refine ev_iload_n (pc := 18) dX8_renew_18 rfl ?_
    refine ev_iald (pc := 19) dX8_renew_19 (by decide) rfl hb.1 ?_
    replace hb := hb.2
    have hF_20 := hb
    refine ev_icmp_ge (pc := 20) (tgt := 42) dX8_renew_20 (by decide) (fun c_20 => ?_) (fun c_20 => ?_)
    · try simp only [if_pos c_20] at h0
      try simp only [if_pos c_20] at h1
      subst h0
      subst h1
      exact ev_loc hE cw_le0
    · have hb := hF_20 c_20
      try simp only [if_neg c_20] at h0
      try simp only [if_neg c_20] at h1
      refine ev_aload_n (pc := 23) dX8_renew_23 rfl ?_
      refine tv_getr (pc := 24) (d := 17) dX8_renew_24 fl_X8_9 (by decide) rfl rfl ?_
      refine ev_iload_n (pc := 27) dX8_renew_27 rfl ?_
      refine ev_sipush (pc := 28) (v := 270) dX8_renew_28 (by decide) ?_
      refine ev_imul (pc := 31) dX8_renew_31 ?_
      refine ev_iload_n (pc := 32) dX8_renew_32 rfl ?_
      refine ev_iadd (pc := 33) dX8_renew_33 ?_
      refine ev_iconst (pc := 34) (v := 0) dX8_renew_34 (by decide) ?_
      refine tw_sast (pc := 35) (A2 := (qA35_X8_renew_16 n I A J t x1 x2 A13 v13_3)) dX8_renew_35 (by decide) rfl hb.1 rfl ?_
      replace hb := hb.2
      refine ev_iinc_3 (pc := 36) (v := (q36_X8_renew_16 n I A J t x1 x2 A13 v13_3)) dX8_renew_36 (by decide) rfl rfl ?_
      refine ev_goto (pc := 39) (tgt := 13) dX8_renew_39 (by decide) ?_
      exact ev_loc (ih (qA35_X8_renew_16 n I A J t x1 x2 A13 v13_3) (q36_X8_renew_16 n I A J t x1 x2 A13 v13_3) w0 w1 hb h0 h1 hE) cw_le0

set_option maxRecDepth 100000 in
set_option maxHeartbeats 4000000 in
theorem cv_X8_renew_16 (g : cw_G) (n : Nat) (I : Nat → Nat → Int32) (A : Nat → Nat → Int32) (J : Nat → Nat → Int64) (t : Bool × Bool) (x1 : Int32) (x2 : Int32) (hb : pb_X8_renew_16 n I A J t x1 x2) : Cd g mX8_renew [(.ref (cw_z g + 16)), (.int x1), (.int x2)] (hp g I A J t) none (hp g I (pA_X8_renew_16 n I A J t x1 x2) J t) := by
  unfold pb_X8_renew_16 at hb
  unfold pA_X8_renew_16
  refine Cd.of rfl (Nat.le_of_ble_eq_true rfl) (ev_gen (fun Q hQ => ?_))
  refine ev_aload_n (pc := 0) dX8_renew_0 rfl ?_
  refine tv_getr (pc := 1) (d := 18) dX8_renew_1 fl_X8_15 (by decide) rfl rfl ?_
  refine ev_iload_n (pc := 4) dX8_renew_4 rfl ?_
  refine ev_iload_n (pc := 5) dX8_renew_5 rfl ?_
  refine ev_iconst (pc := 6) (v := 0) dX8_renew_6 (by decide) ?_
  refine ev_Si (pc := 7) dX8_renew_7 lk_X8_19 cd_J9_max_7cf53 ar_J9_max_7cf53 ⟨by decide, rfl, rfl⟩ (cv_J9_max_7cf53 g n I A J t x2 0) rfl rfl (Nat.le_of_ble_eq_true rfl) ⟨by decide, by decide⟩ ?_
  refine tw_iast (pc := 10) (A2 := (qA10_X8_renew_16 n I A J t x1 x2)) dX8_renew_10 (by decide) rfl hb.1 rfl ?_
  replace hb := hb.2
  refine ev_iconst (pc := 11) (v := 0) dX8_renew_11 (by decide) ?_
  refine ev_istore_3 (pc := 12) dX8_renew_12 (by decide) rfl ?_
  refine lt_X8_renew_16_13 g n I A J t x1 x2 n (qA10_X8_renew_16 n I A J t x1 x2) 0 (qAw13_X8_renew_16 n I A J t x1 x2) (q3w13_X8_renew_16 n I A J t x1 x2) hb rfl rfl ?_
  exact ev_vret (pc := 42) dX8_renew_42 rfl (by decide) (by decide) (hQ _ _ ⟨rfl, rfl⟩)

def qA9_X1_add_19 (n : Nat) (I : Nat → Nat → Int32) (A : Nat → Nat → Int32) (J : Nat → Nat → Int64) (t : Bool × Bool) (x1 : Int32) (x2 : Int32) (x3 : Int32) (x4 : Int32) (x5 : Int32) : Nat → Nat → Int32 := cw_u A 22 ((I 19 9)).toNatClampNeg x1
def qA19_X1_add_19 (n : Nat) (I : Nat → Nat → Int32) (A : Nat → Nat → Int32) (J : Nat → Nat → Int64) (t : Bool × Bool) (x1 : Int32) (x2 : Int32) (x3 : Int32) (x4 : Int32) (x5 : Int32) : Nat → Nat → Int32 := cw_u (qA9_X1_add_19 n I A J t x1 x2 x3 x4 x5) 23 ((I 19 9)).toNatClampNeg x2
def qA29_X1_add_19 (n : Nat) (I : Nat → Nat → Int32) (A : Nat → Nat → Int32) (J : Nat → Nat → Int64) (t : Bool × Bool) (x1 : Int32) (x2 : Int32) (x3 : Int32) (x4 : Int32) (x5 : Int32) : Nat → Nat → Int32 := cw_u (qA19_X1_add_19 n I A J t x1 x2 x3 x4 x5) 24 ((I 19 9)).toNatClampNeg x3
def qA40_X1_add_19 (n : Nat) (I : Nat → Nat → Int32) (A : Nat → Nat → Int32) (J : Nat → Nat → Int64) (t : Bool × Bool) (x1 : Int32) (x2 : Int32) (x3 : Int32) (x4 : Int32) (x5 : Int32) : Nat → Nat → Int32 := cw_u (qA29_X1_add_19 n I A J t x1 x2 x3 x4 x5) 21 ((I 19 9)).toNatClampNeg x4
def qA51_X1_add_19 (n : Nat) (I : Nat → Nat → Int32) (A : Nat → Nat → Int32) (J : Nat → Nat → Int64) (t : Bool × Bool) (x1 : Int32) (x2 : Int32) (x3 : Int32) (x4 : Int32) (x5 : Int32) : Nat → Nat → Int32 := cw_u (qA40_X1_add_19 n I A J t x1 x2 x3 x4 x5) 25 ((I 19 9)).toNatClampNeg x5
def qI59_X1_add_19 (n : Nat) (I : Nat → Nat → Int32) (A : Nat → Nat → Int32) (J : Nat → Nat → Int64) (t : Bool × Bool) (x1 : Int32) (x2 : Int32) (x3 : Int32) (x4 : Int32) (x5 : Int32) : Nat → Nat → Int32 := cw_u I 19 9 ((I 19 9) + 1)
def pb_X1_add_19 (n : Nat) (I : Nat → Nat → Int32) (A : Nat → Nat → Int32) (J : Nat → Nat → Int64) (t : Bool × Bool) (x1 : Int32) (x2 : Int32) (x3 : Int32) (x4 : Int32) (x5 : Int32) : Prop := vp_in (I 19 9) 300 ∧ vp_in (I 19 9) 300 ∧ vp_in (I 19 9) 300 ∧ vp_in (I 19 9) 300 ∧ vp_in (I 19 9) 300
def px_X1_add_19 (n : Nat) (I : Nat → Nat → Int32) (A : Nat → Nat → Int32) (J : Nat → Nat → Int64) (t : Bool × Bool) (x1 : Int32) (x2 : Int32) (x3 : Int32) (x4 : Int32) (x5 : Int32) : Int32 := (((qI59_X1_add_19 n I A J t x1 x2 x3 x4 x5) 19 9) - 1)
def pI_X1_add_19 (n : Nat) (I : Nat → Nat → Int32) (A : Nat → Nat → Int32) (J : Nat → Nat → Int64) (t : Bool × Bool) (x1 : Int32) (x2 : Int32) (x3 : Int32) (x4 : Int32) (x5 : Int32) : Nat → Nat → Int32 := (qI59_X1_add_19 n I A J t x1 x2 x3 x4 x5)
def pA_X1_add_19 (n : Nat) (I : Nat → Nat → Int32) (A : Nat → Nat → Int32) (J : Nat → Nat → Int64) (t : Bool × Bool) (x1 : Int32) (x2 : Int32) (x3 : Int32) (x4 : Int32) (x5 : Int32) : Nat → Nat → Int32 := (qA51_X1_add_19 n I A J t x1 x2 x3 x4 x5)
set_option maxRecDepth 100000 in
set_option maxHeartbeats 4000000 in
theorem cv_X1_add_19 (g : cw_G) (n : Nat) (I : Nat → Nat → Int32) (A : Nat → Nat → Int32) (J : Nat → Nat → Int64) (t : Bool × Bool) (x1 : Int32) (x2 : Int32) (x3 : Int32) (x4 : Int32) (x5 : Int32) (hb : pb_X1_add_19 n I A J t x1 x2 x3 x4 x5) : Cd g mX1_add [(.ref (cw_z g + 19)), (.int x1), (.int x2), (.int x3), (.int x4), (.int x5)] (hp g I A J t) (some (.int (px_X1_add_19 n I A J t x1 x2 x3 x4 x5))) (hp g (pI_X1_add_19 n I A J t x1 x2 x3 x4 x5) (pA_X1_add_19 n I A J t x1 x2 x3 x4 x5) J t) := by
  unfold pb_X1_add_19 at hb
  unfold px_X1_add_19 pI_X1_add_19 pA_X1_add_19
  refine Cd.of rfl (Nat.le_of_ble_eq_true rfl) (ev_gen (fun Q hQ => ?_))
  refine ev_aload_n (pc := 0) dX1_add_0 rfl ?_
  refine tv_getr (pc := 1) (d := 22) dX1_add_1 fl_X1_18 (by decide) rfl rfl ?_
  refine ev_aload_n (pc := 4) dX1_add_4 rfl ?_
  refine tv_geti (pc := 5) dX1_add_5 fl_X1_39 (by decide) rfl rfl ?_
  refine ev_iload_n (pc := 8) dX1_add_8 rfl ?_
  refine tw_iast (pc := 9) (A2 := (qA9_X1_add_19 n I A J t x1 x2 x3 x4 x5)) dX1_add_9 (by decide) rfl hb.1 rfl ?_
  replace hb := hb.2
  refine ev_aload_n (pc := 10) dX1_add_10 rfl ?_
  refine tv_getr (pc := 11) (d := 23) dX1_add_11 fl_X1_21 (by decide) rfl rfl ?_
  refine ev_aload_n (pc := 14) dX1_add_14 rfl ?_
  refine tv_geti (pc := 15) dX1_add_15 fl_X1_39 (by decide) rfl rfl ?_
  refine ev_iload_n (pc := 18) dX1_add_18 rfl ?_
  refine tw_iast (pc := 19) (A2 := (qA19_X1_add_19 n I A J t x1 x2 x3 x4 x5)) dX1_add_19 (by decide) rfl hb.1 rfl ?_
  replace hb := hb.2
  refine ev_aload_n (pc := 20) dX1_add_20 rfl ?_
  refine tv_getr (pc := 21) (d := 24) dX1_add_21 fl_X1_24 (by decide) rfl rfl ?_
  refine ev_aload_n (pc := 24) dX1_add_24 rfl ?_
  refine tv_geti (pc := 25) dX1_add_25 fl_X1_39 (by decide) rfl rfl ?_
  refine ev_iload_n (pc := 28) dX1_add_28 rfl ?_
  refine tw_iast (pc := 29) (A2 := (qA29_X1_add_19 n I A J t x1 x2 x3 x4 x5)) dX1_add_29 (by decide) rfl hb.1 rfl ?_
  replace hb := hb.2
  refine ev_aload_n (pc := 30) dX1_add_30 rfl ?_
  refine tv_getr (pc := 31) (d := 21) dX1_add_31 fl_X1_15 (by decide) rfl rfl ?_
  refine ev_aload_n (pc := 34) dX1_add_34 rfl ?_
  refine tv_geti (pc := 35) dX1_add_35 fl_X1_39 (by decide) rfl rfl ?_
  refine ev_iload (pc := 38) dX1_add_38 rfl ?_
  refine tw_iast (pc := 40) (A2 := (qA40_X1_add_19 n I A J t x1 x2 x3 x4 x5)) dX1_add_40 (by decide) rfl hb.1 rfl ?_
  replace hb := hb.2
  refine ev_aload_n (pc := 41) dX1_add_41 rfl ?_
  refine tv_getr (pc := 42) (d := 25) dX1_add_42 fl_X1_27 (by decide) rfl rfl ?_
  refine ev_aload_n (pc := 45) dX1_add_45 rfl ?_
  refine tv_geti (pc := 46) dX1_add_46 fl_X1_39 (by decide) rfl rfl ?_
  refine ev_iload (pc := 49) dX1_add_49 rfl ?_
  refine tw_iast (pc := 51) (A2 := (qA51_X1_add_19 n I A J t x1 x2 x3 x4 x5)) dX1_add_51 (by decide) rfl hb rfl ?_
  refine ev_aload_n (pc := 52) dX1_add_52 rfl ?_
  refine ev_dup (pc := 53) dX1_add_53 rfl ?_
  refine tv_geti (pc := 54) dX1_add_54 fl_X1_39 (by decide) rfl rfl ?_
  refine ev_iconst (pc := 57) (v := 1) dX1_add_57 (by decide) ?_
  refine ev_iadd (pc := 58) dX1_add_58 ?_
  refine tw_puti (pc := 59) (I2 := (qI59_X1_add_19 n I A J t x1 x2 x3 x4 x5)) dX1_add_59 fp_X1_39 (by decide) rfl rfl rfl ?_
  refine ev_aload_n (pc := 62) dX1_add_62 rfl ?_
  refine tv_geti (pc := 63) dX1_add_63 fl_X1_39 (by decide) rfl rfl ?_
  refine ev_iconst (pc := 66) (v := 1) dX1_add_66 (by decide) ?_
  refine ev_isub (pc := 67) dX1_add_67 ?_
  exact ev_iret (pc := 68) dX1_add_68 rfl (by decide) (by decide) (hQ _ _ ⟨rfl, rfl⟩)

def qA21_X1_addReport_19 (n : Nat) (I : Nat → Nat → Int32) (A : Nat → Nat → Int32) (J : Nat → Nat → Int64) (t : Bool × Bool) (x1 : Int32) (x2 : Int32) (x3 : Int32) (x4 : Int32) (x5 : Int32) (x6 : Int32) : Nat → Nat → Int32 := cw_u A 20 ((I 19 9)).toNatClampNeg x1
def qA32_X1_addReport_19 (n : Nat) (I : Nat → Nat → Int32) (A : Nat → Nat → Int32) (J : Nat → Nat → Int64) (t : Bool × Bool) (x1 : Int32) (x2 : Int32) (x3 : Int32) (x4 : Int32) (x5 : Int32) (x6 : Int32) : Nat → Nat → Int32 := cw_u (qA21_X1_addReport_19 n I A J t x1 x2 x3 x4 x5 x6) 26 ((I 19 9)).toNatClampNeg x5
def pb_X1_addReport_19 (n : Nat) (I : Nat → Nat → Int32) (A : Nat → Nat → Int32) (J : Nat → Nat → Int64) (t : Bool × Bool) (x1 : Int32) (x2 : Int32) (x3 : Int32) (x4 : Int32) (x5 : Int32) (x6 : Int32) : Prop := ((I 19 9) < 300 → vp_in (I 19 9) 300 ∧ vp_in (I 19 9) 300 ∧ pb_X1_add_19 n I (qA32_X1_addReport_19 n I A J t x1 x2 x3 x4 x5 x6) J t x3 x4 (x4 + 1) x2 x6)
def px_X1_addReport_19 (n : Nat) (I : Nat → Nat → Int32) (A : Nat → Nat → Int32) (J : Nat → Nat → Int64) (t : Bool × Bool) (x1 : Int32) (x2 : Int32) (x3 : Int32) (x4 : Int32) (x5 : Int32) (x6 : Int32) : Int32 := (if (I 19 9) < 300 then (px_X1_add_19 n I (qA32_X1_addReport_19 n I A J t x1 x2 x3 x4 x5 x6) J t x3 x4 (x4 + 1) x2 x6) else (-1))
def pI_X1_addReport_19 (n : Nat) (I : Nat → Nat → Int32) (A : Nat → Nat → Int32) (J : Nat → Nat → Int64) (t : Bool × Bool) (x1 : Int32) (x2 : Int32) (x3 : Int32) (x4 : Int32) (x5 : Int32) (x6 : Int32) : Nat → Nat → Int32 := (if (I 19 9) < 300 then (pI_X1_add_19 n I (qA32_X1_addReport_19 n I A J t x1 x2 x3 x4 x5 x6) J t x3 x4 (x4 + 1) x2 x6) else I)
def pA_X1_addReport_19 (n : Nat) (I : Nat → Nat → Int32) (A : Nat → Nat → Int32) (J : Nat → Nat → Int64) (t : Bool × Bool) (x1 : Int32) (x2 : Int32) (x3 : Int32) (x4 : Int32) (x5 : Int32) (x6 : Int32) : Nat → Nat → Int32 := (if (I 19 9) < 300 then (pA_X1_add_19 n I (qA32_X1_addReport_19 n I A J t x1 x2 x3 x4 x5 x6) J t x3 x4 (x4 + 1) x2 x6) else A)
set_option maxRecDepth 100000 in
set_option maxHeartbeats 4000000 in
theorem cv_X1_addReport_19 (g : cw_G) (n : Nat) (I : Nat → Nat → Int32) (A : Nat → Nat → Int32) (J : Nat → Nat → Int64) (t : Bool × Bool) (x1 : Int32) (x2 : Int32) (x3 : Int32) (x4 : Int32) (x5 : Int32) (x6 : Int32) (hb : pb_X1_addReport_19 n I A J t x1 x2 x3 x4 x5 x6) : Cd g mX1_addReport [(.ref (cw_z g + 19)), (.int x1), (.int x2), (.int x3), (.int x4), (.int x5), (.int x6)] (hp g I A J t) (some (.int (px_X1_addReport_19 n I A J t x1 x2 x3 x4 x5 x6))) (hp g (pI_X1_addReport_19 n I A J t x1 x2 x3 x4 x5 x6) (pA_X1_addReport_19 n I A J t x1 x2 x3 x4 x5 x6) J t) := by
  unfold pb_X1_addReport_19 at hb
  unfold px_X1_addReport_19 pI_X1_addReport_19 pA_X1_addReport_19
  refine Cd.of rfl (Nat.le_of_ble_eq_true rfl) (ev_gen (fun Q hQ => ?_))
  refine ev_aload_n (pc := 0) dX1_addReport_0 rfl ?_
  refine tv_geti (pc := 1) dX1_addReport_1 fl_X1_39 (by decide) rfl rfl ?_
  refine ev_sipush (pc := 4) (v := 300) dX1_addReport_4 (by decide) ?_
  have hT_7 := hb
  refine ev_icmp_lt (pc := 7) (tgt := 12) dX1_addReport_7 (by decide) (fun c_7 => ?_) (fun c_7 => ?_)
  · have hb := hT_7 c_7
    try simp only [if_pos c_7] at hQ
    refine ev_aload_n (pc := 12) dX1_addReport_12 rfl ?_
    refine tv_getr (pc := 13) (d := 20) dX1_addReport_13 fl_X1_9 (by decide) rfl rfl ?_
    refine ev_aload_n (pc := 16) dX1_addReport_16 rfl ?_
    refine tv_geti (pc := 17) dX1_addReport_17 fl_X1_39 (by decide) rfl rfl ?_
    refine ev_iload_n (pc := 20) dX1_addReport_20 rfl ?_
    refine tw_iast (pc := 21) (A2 := (qA21_X1_addReport_19 n I A J t x1 x2 x3 x4 x5 x6)) dX1_addReport_21 (by decide) rfl hb.1 rfl ?_
    replace hb := hb.2
    refine ev_aload_n (pc := 22) dX1_addReport_22 rfl ?_
    refine tv_getr (pc := 23) (d := 26) dX1_addReport_23 fl_X1_30 (by decide) rfl rfl ?_
    refine ev_aload_n (pc := 26) dX1_addReport_26 rfl ?_
    refine tv_geti (pc := 27) dX1_addReport_27 fl_X1_39 (by decide) rfl rfl ?_
    refine ev_iload (pc := 30) dX1_addReport_30 rfl ?_
    refine tw_iast (pc := 32) (A2 := (qA32_X1_addReport_19 n I A J t x1 x2 x3 x4 x5 x6)) dX1_addReport_32 (by decide) rfl hb.1 rfl ?_
    replace hb := hb.2
    refine ev_aload_n (pc := 33) dX1_addReport_33 rfl ?_
    refine ev_iload_n (pc := 34) dX1_addReport_34 rfl ?_
    refine ev_iload (pc := 35) dX1_addReport_35 rfl ?_
    refine ev_iload (pc := 37) dX1_addReport_37 rfl ?_
    refine ev_iconst (pc := 39) (v := 1) dX1_addReport_39 (by decide) ?_
    refine ev_iadd (pc := 40) dX1_addReport_40 ?_
    refine ev_iload_n (pc := 41) dX1_addReport_41 rfl ?_
    refine ev_iload (pc := 42) dX1_addReport_42 rfl ?_
    refine ev_Vi (pc := 44) dX1_addReport_44 lk_X1_43 cd_X1_add ar_X1_add ⟨by decide, rfl, rfl⟩ (cv_X1_add_19 g n I (qA32_X1_addReport_19 n I A J t x1 x2 x3 x4 x5 x6) J t x3 x4 (x4 + 1) x2 x6 hb) (show 19 < 120 by decide) rfl rfl rfl rfl (Nat.le_of_ble_eq_true rfl) ⟨by decide, by decide⟩ ?_
    exact ev_iret (pc := 47) dX1_addReport_47 rfl (by decide) (by decide) (hQ _ _ ⟨rfl, rfl⟩)
  · try simp only [if_neg c_7] at hQ
    refine ev_iconst (pc := 10) (v := (-1)) dX1_addReport_10 (by decide) ?_
    exact ev_iret (pc := 11) dX1_addReport_11 rfl (by decide) (by decide) (hQ _ _ ⟨rfl, rfl⟩)

def qA21_X1_addNotice_19 (n : Nat) (I : Nat → Nat → Int32) (A : Nat → Nat → Int32) (J : Nat → Nat → Int64) (t : Bool × Bool) (x1 : Int32) (x2 : Int32) (x3 : Int32) (x4 : Int32) (x5 : Int32) : Nat → Nat → Int32 := cw_u A 20 ((I 19 9)).toNatClampNeg (-1)
def qA42_X1_addNotice_19 (n : Nat) (I : Nat → Nat → Int32) (A : Nat → Nat → Int32) (J : Nat → Nat → Int64) (t : Bool × Bool) (x1 : Int32) (x2 : Int32) (x3 : Int32) (x4 : Int32) (x5 : Int32) : Nat → Nat → Int32 := cw_u (qA21_X1_addNotice_19 n I A J t x1 x2 x3 x4 x5) 27 (((x1 * 300) + ((qA21_X1_addNotice_19 n I A J t x1 x2 x3 x4 x5) 28 (x1).toNatClampNeg))).toNatClampNeg (I 19 9)
def qA52_X1_addNotice_19 (n : Nat) (I : Nat → Nat → Int32) (A : Nat → Nat → Int32) (J : Nat → Nat → Int64) (t : Bool × Bool) (x1 : Int32) (x2 : Int32) (x3 : Int32) (x4 : Int32) (x5 : Int32) : Nat → Nat → Int32 := cw_u (qA42_X1_addNotice_19 n I A J t x1 x2 x3 x4 x5) 28 (x1).toNatClampNeg (((qA42_X1_addNotice_19 n I A J t x1 x2 x3 x4 x5) 28 (x1).toNatClampNeg) + 1)
def pb_X1_addNotice_19 (n : Nat) (I : Nat → Nat → Int32) (A : Nat → Nat → Int32) (J : Nat → Nat → Int64) (t : Bool × Bool) (x1 : Int32) (x2 : Int32) (x3 : Int32) (x4 : Int32) (x5 : Int32) : Prop := ((I 19 9) < 300 → vp_in (I 19 9) 300 ∧ vp_in x1 6 ∧ vp_in ((x1 * 300) + ((qA21_X1_addNotice_19 n I A J t x1 x2 x3 x4 x5) 28 (x1).toNatClampNeg)) 1800 ∧ vp_in x1 6 ∧ vp_in x1 6 ∧ pb_X1_add_19 n I (qA52_X1_addNotice_19 n I A J t x1 x2 x3 x4 x5) J t x1 x2 x3 x4 x5)
def px_X1_addNotice_19 (n : Nat) (I : Nat → Nat → Int32) (A : Nat → Nat → Int32) (J : Nat → Nat → Int64) (t : Bool × Bool) (x1 : Int32) (x2 : Int32) (x3 : Int32) (x4 : Int32) (x5 : Int32) : Int32 := (if (I 19 9) < 300 then (px_X1_add_19 n I (qA52_X1_addNotice_19 n I A J t x1 x2 x3 x4 x5) J t x1 x2 x3 x4 x5) else (-1))
def pI_X1_addNotice_19 (n : Nat) (I : Nat → Nat → Int32) (A : Nat → Nat → Int32) (J : Nat → Nat → Int64) (t : Bool × Bool) (x1 : Int32) (x2 : Int32) (x3 : Int32) (x4 : Int32) (x5 : Int32) : Nat → Nat → Int32 := (if (I 19 9) < 300 then (pI_X1_add_19 n I (qA52_X1_addNotice_19 n I A J t x1 x2 x3 x4 x5) J t x1 x2 x3 x4 x5) else I)
def pA_X1_addNotice_19 (n : Nat) (I : Nat → Nat → Int32) (A : Nat → Nat → Int32) (J : Nat → Nat → Int64) (t : Bool × Bool) (x1 : Int32) (x2 : Int32) (x3 : Int32) (x4 : Int32) (x5 : Int32) : Nat → Nat → Int32 := (if (I 19 9) < 300 then (pA_X1_add_19 n I (qA52_X1_addNotice_19 n I A J t x1 x2 x3 x4 x5) J t x1 x2 x3 x4 x5) else A)
set_option maxRecDepth 100000 in
set_option maxHeartbeats 4000000 in
theorem cv_X1_addNotice_19 (g : cw_G) (n : Nat) (I : Nat → Nat → Int32) (A : Nat → Nat → Int32) (J : Nat → Nat → Int64) (t : Bool × Bool) (x1 : Int32) (x2 : Int32) (x3 : Int32) (x4 : Int32) (x5 : Int32) (hb : pb_X1_addNotice_19 n I A J t x1 x2 x3 x4 x5) : Cd g mX1_addNotice [(.ref (cw_z g + 19)), (.int x1), (.int x2), (.int x3), (.int x4), (.int x5)] (hp g I A J t) (some (.int (px_X1_addNotice_19 n I A J t x1 x2 x3 x4 x5))) (hp g (pI_X1_addNotice_19 n I A J t x1 x2 x3 x4 x5) (pA_X1_addNotice_19 n I A J t x1 x2 x3 x4 x5) J t) := by
  unfold pb_X1_addNotice_19 at hb
  unfold px_X1_addNotice_19 pI_X1_addNotice_19 pA_X1_addNotice_19
  refine Cd.of rfl (Nat.le_of_ble_eq_true rfl) (ev_gen (fun Q hQ => ?_))
  refine ev_aload_n (pc := 0) dX1_addNotice_0 rfl ?_
  refine tv_geti (pc := 1) dX1_addNotice_1 fl_X1_39 (by decide) rfl rfl ?_
  refine ev_sipush (pc := 4) (v := 300) dX1_addNotice_4 (by decide) ?_
  have hT_7 := hb
  refine ev_icmp_lt (pc := 7) (tgt := 12) dX1_addNotice_7 (by decide) (fun c_7 => ?_) (fun c_7 => ?_)
  · have hb := hT_7 c_7
    try simp only [if_pos c_7] at hQ
    refine ev_aload_n (pc := 12) dX1_addNotice_12 rfl ?_
    refine tv_getr (pc := 13) (d := 20) dX1_addNotice_13 fl_X1_9 (by decide) rfl rfl ?_
    refine ev_aload_n (pc := 16) dX1_addNotice_16 rfl ?_
    refine tv_geti (pc := 17) dX1_addNotice_17 fl_X1_39 (by decide) rfl rfl ?_
    refine ev_iconst (pc := 20) (v := (-1)) dX1_addNotice_20 (by decide) ?_
    refine tw_iast (pc := 21) (A2 := (qA21_X1_addNotice_19 n I A J t x1 x2 x3 x4 x5)) dX1_addNotice_21 (by decide) rfl hb.1 rfl ?_
    replace hb := hb.2
    refine ev_aload_n (pc := 22) dX1_addNotice_22 rfl ?_
    refine tv_getr (pc := 23) (d := 27) dX1_addNotice_23 fl_X1_33 (by decide) rfl rfl ?_
    refine ev_iload_n (pc := 26) dX1_addNotice_26 rfl ?_
    refine ev_sipush (pc := 27) (v := 300) dX1_addNotice_27 (by decide) ?_
    refine ev_imul (pc := 30) dX1_addNotice_30 ?_
    refine ev_aload_n (pc := 31) dX1_addNotice_31 rfl ?_
    refine tv_getr (pc := 32) (d := 28) dX1_addNotice_32 fl_X1_36 (by decide) rfl rfl ?_
    refine ev_iload_n (pc := 35) dX1_addNotice_35 rfl ?_
    refine ev_iald (pc := 36) dX1_addNotice_36 (by decide) rfl hb.1 ?_
    replace hb := hb.2
    refine ev_iadd (pc := 37) dX1_addNotice_37 ?_
    refine ev_aload_n (pc := 38) dX1_addNotice_38 rfl ?_
    refine tv_geti (pc := 39) dX1_addNotice_39 fl_X1_39 (by decide) rfl rfl ?_
    refine tw_iast (pc := 42) (A2 := (qA42_X1_addNotice_19 n I A J t x1 x2 x3 x4 x5)) dX1_addNotice_42 (by decide) rfl hb.1 rfl ?_
    replace hb := hb.2
    refine ev_aload_n (pc := 43) dX1_addNotice_43 rfl ?_
    refine tv_getr (pc := 44) (d := 28) dX1_addNotice_44 fl_X1_36 (by decide) rfl rfl ?_
    refine ev_iload_n (pc := 47) dX1_addNotice_47 rfl ?_
    refine ev_dup2 (pc := 48) dX1_addNotice_48 rfl rfl ?_
    refine ev_iald (pc := 49) dX1_addNotice_49 (by decide) rfl hb.1 ?_
    replace hb := hb.2
    refine ev_iconst (pc := 50) (v := 1) dX1_addNotice_50 (by decide) ?_
    refine ev_iadd (pc := 51) dX1_addNotice_51 ?_
    refine tw_iast (pc := 52) (A2 := (qA52_X1_addNotice_19 n I A J t x1 x2 x3 x4 x5)) dX1_addNotice_52 (by decide) rfl hb.1 rfl ?_
    replace hb := hb.2
    refine ev_aload_n (pc := 53) dX1_addNotice_53 rfl ?_
    refine ev_iload_n (pc := 54) dX1_addNotice_54 rfl ?_
    refine ev_iload_n (pc := 55) dX1_addNotice_55 rfl ?_
    refine ev_iload_n (pc := 56) dX1_addNotice_56 rfl ?_
    refine ev_iload (pc := 57) dX1_addNotice_57 rfl ?_
    refine ev_iload (pc := 59) dX1_addNotice_59 rfl ?_
    refine ev_Vi (pc := 61) dX1_addNotice_61 lk_X1_43 cd_X1_add ar_X1_add ⟨by decide, rfl, rfl⟩ (cv_X1_add_19 g n I (qA52_X1_addNotice_19 n I A J t x1 x2 x3 x4 x5) J t x1 x2 x3 x4 x5 hb) (show 19 < 120 by decide) rfl rfl rfl rfl (Nat.le_of_ble_eq_true rfl) ⟨by decide, by decide⟩ ?_
    exact ev_iret (pc := 64) dX1_addNotice_64 rfl (by decide) (by decide) (hQ _ _ ⟨rfl, rfl⟩)
  · try simp only [if_neg c_7] at hQ
    refine ev_iconst (pc := 10) (v := (-1)) dX1_addNotice_10 (by decide) ?_
    exact ev_iret (pc := 11) dX1_addNotice_11 rfl (by decide) (by decide) (hQ _ _ ⟨rfl, rfl⟩)

def qs0m9_X1_canKnow_19 (n : Nat) (I : Nat → Nat → Int32) (A : Nat → Nat → Int32) (J : Nat → Nat → Int64) (t : Bool × Bool) (x1 : Int32) : Int32 := if (I 19 9) < x1 then 0 else 1
def qs0m1_X1_canKnow_19 (n : Nat) (I : Nat → Nat → Int32) (A : Nat → Nat → Int32) (J : Nat → Nat → Int64) (t : Bool × Bool) (x1 : Int32) : Int32 := if x1 < 0 then 0 else (qs0m9_X1_canKnow_19 n I A J t x1)
def px_X1_canKnow_19 (n : Nat) (I : Nat → Nat → Int32) (A : Nat → Nat → Int32) (J : Nat → Nat → Int64) (t : Bool × Bool) (x1 : Int32) : Int32 := (qs0m1_X1_canKnow_19 n I A J t x1)
set_option maxRecDepth 100000 in
set_option maxHeartbeats 4000000 in
theorem cv_X1_canKnow_19 (g : cw_G) (n : Nat) (I : Nat → Nat → Int32) (A : Nat → Nat → Int32) (J : Nat → Nat → Int64) (t : Bool × Bool) (x1 : Int32) : Cd g mX1_canKnow [(.ref (cw_z g + 19)), (.int x1)] (hp g I A J t) (some (.int (px_X1_canKnow_19 n I A J t x1))) (hp g I A J t) := by
  unfold px_X1_canKnow_19
  refine Cd.of rfl (Nat.le_of_ble_eq_true rfl) (ev_gen (fun Q hQ => ?_))
  refine ev_iload_n (pc := 0) dX1_canKnow_0 rfl ?_
  refine ev_cut (pj := 17) (Lj := [some (.ref (cw_z g + 19)), some (.int x1)]) (stj := [(.int (qs0m1_X1_canKnow_19 n I A J t x1))]) (σj := hp g I A J t) ?_ (fun hJ_1 => ?_)
  rotate_left
  · refine ev_if_lt (pc := 1) (tgt := 16) dX1_canKnow_1 (by decide) (fun c_1 => ?_) (fun c_1 => ?_)
    · refine ev_iconst (pc := 16) (v := 0) dX1_canKnow_16 (by decide) ?_
      simp only [qs0m1_X1_canKnow_19, if_pos c_1] at hJ_1
      exact ev_loc hJ_1 cw_le0
    · refine ev_iload_n (pc := 4) dX1_canKnow_4 rfl ?_
      refine ev_aload_n (pc := 5) dX1_canKnow_5 rfl ?_
      refine tv_geti (pc := 6) dX1_canKnow_6 fl_X1_39 (by decide) rfl rfl ?_
      refine ev_cut (pj := 17) (Lj := [some (.ref (cw_z g + 19)), some (.int x1)]) (stj := [(.int (qs0m9_X1_canKnow_19 n I A J t x1))]) (σj := hp g I A J t) ?_ (fun hJ_9 => ?_)
      rotate_left
      · refine ev_icmp_gt (pc := 9) (tgt := 16) dX1_canKnow_9 (by decide) (fun c_9 => ?_) (fun c_9 => ?_)
        · refine ev_iconst (pc := 16) (v := 0) dX1_canKnow_16 (by decide) ?_
          simp only [qs0m9_X1_canKnow_19, if_pos c_9] at hJ_9
          exact ev_loc hJ_9 cw_le0
        · refine ev_iconst (pc := 12) (v := 1) dX1_canKnow_12 (by decide) ?_
          refine ev_goto (pc := 13) (tgt := 17) dX1_canKnow_13 (by decide) ?_
          simp only [qs0m9_X1_canKnow_19, if_neg c_9] at hJ_9
          exact ev_loc hJ_9 cw_le0
      simp only [qs0m1_X1_canKnow_19, if_neg c_1] at hJ_1
      exact ev_loc hJ_1 cw_le0
  exact ev_zret (pc := 17) dX1_canKnow_17 rfl (cw_nz (cw_ite (Or.inl rfl) (cw_ite (Or.inl rfl) (Or.inr rfl)))) (by decide) (by decide) (hQ _ _ ⟨rfl, rfl⟩)

theorem z1_X1_canKnow_19 (n : Nat) (I : Nat → Nat → Int32) (A : Nat → Nat → Int32) (J : Nat → Nat → Int64) (t : Bool × Bool) (x1 : Int32) : px_X1_canKnow_19 n I A J t x1 = 0 ∨ px_X1_canKnow_19 n I A J t x1 = 1 := (cw_ite (Or.inl rfl) (cw_ite (Or.inl rfl) (Or.inr rfl)))

def qs0m19_X1_isNotice_19 (n : Nat) (I : Nat → Nat → Int32) (A : Nat → Nat → Int32) (J : Nat → Nat → Int64) (t : Bool × Bool) (x1 : Int32) : Int32 := if (A 20 (x1).toNatClampNeg) = (-1) then 1 else 0
def qs0m9_X1_isNotice_19 (n : Nat) (I : Nat → Nat → Int32) (A : Nat → Nat → Int32) (J : Nat → Nat → Int64) (t : Bool × Bool) (x1 : Int32) : Int32 := if (I 19 9) ≤ x1 then 0 else (qs0m19_X1_isNotice_19 n I A J t x1)
def qs0m1_X1_isNotice_19 (n : Nat) (I : Nat → Nat → Int32) (A : Nat → Nat → Int32) (J : Nat → Nat → Int64) (t : Bool × Bool) (x1 : Int32) : Int32 := if x1 < 0 then 0 else (qs0m9_X1_isNotice_19 n I A J t x1)
def pb_X1_isNotice_19 (n : Nat) (I : Nat → Nat → Int32) (A : Nat → Nat → Int32) (J : Nat → Nat → Int64) (t : Bool × Bool) (x1 : Int32) : Prop := (¬ x1 < 0 → (¬ (I 19 9) ≤ x1 → vp_in x1 300))
def px_X1_isNotice_19 (n : Nat) (I : Nat → Nat → Int32) (A : Nat → Nat → Int32) (J : Nat → Nat → Int64) (t : Bool × Bool) (x1 : Int32) : Int32 := (qs0m1_X1_isNotice_19 n I A J t x1)
set_option maxRecDepth 100000 in
set_option maxHeartbeats 4000000 in
theorem cv_X1_isNotice_19 (g : cw_G) (n : Nat) (I : Nat → Nat → Int32) (A : Nat → Nat → Int32) (J : Nat → Nat → Int64) (t : Bool × Bool) (x1 : Int32) (hb : pb_X1_isNotice_19 n I A J t x1) : Cd g mX1_isNotice [(.ref (cw_z g + 19)), (.int x1)] (hp g I A J t) (some (.int (px_X1_isNotice_19 n I A J t x1))) (hp g I A J t) := by
  unfold pb_X1_isNotice_19 at hb
  unfold px_X1_isNotice_19
  refine Cd.of rfl (Nat.le_of_ble_eq_true rfl) (ev_gen (fun Q hQ => ?_))
  refine ev_iload_n (pc := 0) dX1_isNotice_0 rfl ?_
  have hF_1 := hb
  refine ev_cut (pj := 27) (Lj := [some (.ref (cw_z g + 19)), some (.int x1)]) (stj := [(.int (qs0m1_X1_isNotice_19 n I A J t x1))]) (σj := hp g I A J t) ?_ (fun hJ_1 => ?_)
  rotate_left
  · refine ev_if_lt (pc := 1) (tgt := 26) dX1_isNotice_1 (by decide) (fun c_1 => ?_) (fun c_1 => ?_)
    · refine ev_iconst (pc := 26) (v := 0) dX1_isNotice_26 (by decide) ?_
      simp only [qs0m1_X1_isNotice_19, if_pos c_1] at hJ_1
      exact ev_loc hJ_1 cw_le0
    · have hb := hF_1 c_1
      refine ev_iload_n (pc := 4) dX1_isNotice_4 rfl ?_
      refine ev_aload_n (pc := 5) dX1_isNotice_5 rfl ?_
      refine tv_geti (pc := 6) dX1_isNotice_6 fl_X1_39 (by decide) rfl rfl ?_
      have hF_9 := hb
      refine ev_cut (pj := 27) (Lj := [some (.ref (cw_z g + 19)), some (.int x1)]) (stj := [(.int (qs0m9_X1_isNotice_19 n I A J t x1))]) (σj := hp g I A J t) ?_ (fun hJ_9 => ?_)
      rotate_left
      · refine ev_icmp_ge (pc := 9) (tgt := 26) dX1_isNotice_9 (by decide) (fun c_9 => ?_) (fun c_9 => ?_)
        · refine ev_iconst (pc := 26) (v := 0) dX1_isNotice_26 (by decide) ?_
          simp only [qs0m9_X1_isNotice_19, if_pos c_9] at hJ_9
          exact ev_loc hJ_9 cw_le0
        · have hb := hF_9 c_9
          refine ev_aload_n (pc := 12) dX1_isNotice_12 rfl ?_
          refine tv_getr (pc := 13) (d := 20) dX1_isNotice_13 fl_X1_9 (by decide) rfl rfl ?_
          refine ev_iload_n (pc := 16) dX1_isNotice_16 rfl ?_
          refine ev_iald (pc := 17) dX1_isNotice_17 (by decide) rfl hb ?_
          refine ev_iconst (pc := 18) (v := (-1)) dX1_isNotice_18 (by decide) ?_
          refine ev_cut (pj := 27) (Lj := [some (.ref (cw_z g + 19)), some (.int x1)]) (stj := [(.int (qs0m19_X1_isNotice_19 n I A J t x1))]) (σj := hp g I A J t) ?_ (fun hJ_19 => ?_)
          rotate_left
          · refine ev_icmp_ne (pc := 19) (tgt := 26) dX1_isNotice_19 (by decide) (fun c_19 => ?_) (fun c_19 => ?_)
            · refine ev_iconst (pc := 26) (v := 0) dX1_isNotice_26 (by decide) ?_
              simp only [qs0m19_X1_isNotice_19, if_neg c_19] at hJ_19
              exact ev_loc hJ_19 cw_le0
            · refine ev_iconst (pc := 22) (v := 1) dX1_isNotice_22 (by decide) ?_
              refine ev_goto (pc := 23) (tgt := 27) dX1_isNotice_23 (by decide) ?_
              simp only [qs0m19_X1_isNotice_19, if_pos c_19] at hJ_19
              exact ev_loc hJ_19 cw_le0
          simp only [qs0m9_X1_isNotice_19, if_neg c_9] at hJ_9
          exact ev_loc hJ_9 cw_le0
      simp only [qs0m1_X1_isNotice_19, if_neg c_1] at hJ_1
      exact ev_loc hJ_1 cw_le0
  exact ev_zret (pc := 27) dX1_isNotice_27 rfl (cw_nz (cw_ite (Or.inl rfl) (cw_ite (Or.inl rfl) (cw_ite (Or.inr rfl) (Or.inl rfl))))) (by decide) (by decide) (hQ _ _ ⟨rfl, rfl⟩)

theorem z1_X1_isNotice_19 (n : Nat) (I : Nat → Nat → Int32) (A : Nat → Nat → Int32) (J : Nat → Nat → Int64) (t : Bool × Bool) (x1 : Int32) : px_X1_isNotice_19 n I A J t x1 = 0 ∨ px_X1_isNotice_19 n I A J t x1 = 1 := (cw_ite (Or.inl rfl) (cw_ite (Or.inl rfl) (cw_ite (Or.inr rfl) (Or.inl rfl))))

def qs0m39_X1_holdsAt_19 (n : Nat) (I : Nat → Nat → Int32) (A : Nat → Nat → Int32) (J : Nat → Nat → Int64) (t : Bool × Bool) (x1 : Int32) (x2 : Int32) (x3 : Int32) (x4 : Int32) : Int32 := if (A 24 (x1).toNatClampNeg) ≤ x4 then 0 else 1
def qs0m28_X1_holdsAt_19 (n : Nat) (I : Nat → Nat → Int32) (A : Nat → Nat → Int32) (J : Nat → Nat → Int64) (t : Bool × Bool) (x1 : Int32) (x2 : Int32) (x3 : Int32) (x4 : Int32) : Int32 := if x4 < (A 23 (x1).toNatClampNeg) then 0 else (qs0m39_X1_holdsAt_19 n I A J t x1 x2 x3 x4)
def qs0m17_X1_holdsAt_19 (n : Nat) (I : Nat → Nat → Int32) (A : Nat → Nat → Int32) (J : Nat → Nat → Int64) (t : Bool × Bool) (x1 : Int32) (x2 : Int32) (x3 : Int32) (x4 : Int32) : Int32 := if x3 < (A 25 (x1).toNatClampNeg) then 0 else (qs0m28_X1_holdsAt_19 n I A J t x1 x2 x3 x4)
def qs0m7_X1_holdsAt_19 (n : Nat) (I : Nat → Nat → Int32) (A : Nat → Nat → Int32) (J : Nat → Nat → Int64) (t : Bool × Bool) (x1 : Int32) (x2 : Int32) (x3 : Int32) (x4 : Int32) : Int32 := if (A 22 (x1).toNatClampNeg) = x2 then (qs0m17_X1_holdsAt_19 n I A J t x1 x2 x3 x4) else 0
def pb_X1_holdsAt_19 (n : Nat) (I : Nat → Nat → Int32) (A : Nat → Nat → Int32) (J : Nat → Nat → Int64) (t : Bool × Bool) (x1 : Int32) (x2 : Int32) (x3 : Int32) (x4 : Int32) : Prop := vp_in x1 300 ∧ ((A 22 (x1).toNatClampNeg) = x2 → vp_in x1 300 ∧ (¬ x3 < (A 25 (x1).toNatClampNeg) → vp_in x1 300 ∧ (¬ x4 < (A 23 (x1).toNatClampNeg) → vp_in x1 300)))
def px_X1_holdsAt_19 (n : Nat) (I : Nat → Nat → Int32) (A : Nat → Nat → Int32) (J : Nat → Nat → Int64) (t : Bool × Bool) (x1 : Int32) (x2 : Int32) (x3 : Int32) (x4 : Int32) : Int32 := (qs0m7_X1_holdsAt_19 n I A J t x1 x2 x3 x4)
set_option maxRecDepth 100000 in
set_option maxHeartbeats 4000000 in
theorem cv_X1_holdsAt_19 (g : cw_G) (n : Nat) (I : Nat → Nat → Int32) (A : Nat → Nat → Int32) (J : Nat → Nat → Int64) (t : Bool × Bool) (x1 : Int32) (x2 : Int32) (x3 : Int32) (x4 : Int32) (hb : pb_X1_holdsAt_19 n I A J t x1 x2 x3 x4) : Cd g mX1_holdsAt [(.ref (cw_z g + 19)), (.int x1), (.int x2), (.int x3), (.int x4)] (hp g I A J t) (some (.int (px_X1_holdsAt_19 n I A J t x1 x2 x3 x4))) (hp g I A J t) := by
  unfold pb_X1_holdsAt_19 at hb
  unfold px_X1_holdsAt_19
  refine Cd.of rfl (Nat.le_of_ble_eq_true rfl) (ev_gen (fun Q hQ => ?_))
  refine ev_aload_n (pc := 0) dX1_holdsAt_0 rfl ?_
  refine tv_getr (pc := 1) (d := 22) dX1_holdsAt_1 fl_X1_18 (by decide) rfl rfl ?_
  refine ev_iload_n (pc := 4) dX1_holdsAt_4 rfl ?_
  refine ev_iald (pc := 5) dX1_holdsAt_5 (by decide) rfl hb.1 ?_
  replace hb := hb.2
  refine ev_iload_n (pc := 6) dX1_holdsAt_6 rfl ?_
  have hF_7 := hb
  refine ev_cut (pj := 47) (Lj := [some (.ref (cw_z g + 19)), some (.int x1), some (.int x2), some (.int x3), some (.int x4)]) (stj := [(.int (qs0m7_X1_holdsAt_19 n I A J t x1 x2 x3 x4))]) (σj := hp g I A J t) ?_ (fun hJ_7 => ?_)
  rotate_left
  · refine ev_icmp_ne (pc := 7) (tgt := 46) dX1_holdsAt_7 (by decide) (fun c_7 => ?_) (fun c_7 => ?_)
    · refine ev_iconst (pc := 46) (v := 0) dX1_holdsAt_46 (by decide) ?_
      simp only [qs0m7_X1_holdsAt_19, if_neg c_7] at hJ_7
      exact ev_loc hJ_7 cw_le0
    · have hb := hF_7 c_7
      refine ev_iload_n (pc := 10) dX1_holdsAt_10 rfl ?_
      refine ev_aload_n (pc := 11) dX1_holdsAt_11 rfl ?_
      refine tv_getr (pc := 12) (d := 25) dX1_holdsAt_12 fl_X1_27 (by decide) rfl rfl ?_
      refine ev_iload_n (pc := 15) dX1_holdsAt_15 rfl ?_
      refine ev_iald (pc := 16) dX1_holdsAt_16 (by decide) rfl hb.1 ?_
      replace hb := hb.2
      have hF_17 := hb
      refine ev_cut (pj := 47) (Lj := [some (.ref (cw_z g + 19)), some (.int x1), some (.int x2), some (.int x3), some (.int x4)]) (stj := [(.int (qs0m17_X1_holdsAt_19 n I A J t x1 x2 x3 x4))]) (σj := hp g I A J t) ?_ (fun hJ_17 => ?_)
      rotate_left
      · refine ev_icmp_lt (pc := 17) (tgt := 46) dX1_holdsAt_17 (by decide) (fun c_17 => ?_) (fun c_17 => ?_)
        · refine ev_iconst (pc := 46) (v := 0) dX1_holdsAt_46 (by decide) ?_
          simp only [qs0m17_X1_holdsAt_19, if_pos c_17] at hJ_17
          exact ev_loc hJ_17 cw_le0
        · have hb := hF_17 c_17
          refine ev_iload (pc := 20) dX1_holdsAt_20 rfl ?_
          refine ev_aload_n (pc := 22) dX1_holdsAt_22 rfl ?_
          refine tv_getr (pc := 23) (d := 23) dX1_holdsAt_23 fl_X1_21 (by decide) rfl rfl ?_
          refine ev_iload_n (pc := 26) dX1_holdsAt_26 rfl ?_
          refine ev_iald (pc := 27) dX1_holdsAt_27 (by decide) rfl hb.1 ?_
          replace hb := hb.2
          have hF_28 := hb
          refine ev_cut (pj := 47) (Lj := [some (.ref (cw_z g + 19)), some (.int x1), some (.int x2), some (.int x3), some (.int x4)]) (stj := [(.int (qs0m28_X1_holdsAt_19 n I A J t x1 x2 x3 x4))]) (σj := hp g I A J t) ?_ (fun hJ_28 => ?_)
          rotate_left
          · refine ev_icmp_lt (pc := 28) (tgt := 46) dX1_holdsAt_28 (by decide) (fun c_28 => ?_) (fun c_28 => ?_)
            · refine ev_iconst (pc := 46) (v := 0) dX1_holdsAt_46 (by decide) ?_
              simp only [qs0m28_X1_holdsAt_19, if_pos c_28] at hJ_28
              exact ev_loc hJ_28 cw_le0
            · have hb := hF_28 c_28
              refine ev_iload (pc := 31) dX1_holdsAt_31 rfl ?_
              refine ev_aload_n (pc := 33) dX1_holdsAt_33 rfl ?_
              refine tv_getr (pc := 34) (d := 24) dX1_holdsAt_34 fl_X1_24 (by decide) rfl rfl ?_
              refine ev_iload_n (pc := 37) dX1_holdsAt_37 rfl ?_
              refine ev_iald (pc := 38) dX1_holdsAt_38 (by decide) rfl hb ?_
              refine ev_cut (pj := 47) (Lj := [some (.ref (cw_z g + 19)), some (.int x1), some (.int x2), some (.int x3), some (.int x4)]) (stj := [(.int (qs0m39_X1_holdsAt_19 n I A J t x1 x2 x3 x4))]) (σj := hp g I A J t) ?_ (fun hJ_39 => ?_)
              rotate_left
              · refine ev_icmp_ge (pc := 39) (tgt := 46) dX1_holdsAt_39 (by decide) (fun c_39 => ?_) (fun c_39 => ?_)
                · refine ev_iconst (pc := 46) (v := 0) dX1_holdsAt_46 (by decide) ?_
                  simp only [qs0m39_X1_holdsAt_19, if_pos c_39] at hJ_39
                  exact ev_loc hJ_39 cw_le0
                · refine ev_iconst (pc := 42) (v := 1) dX1_holdsAt_42 (by decide) ?_
                  refine ev_goto (pc := 43) (tgt := 47) dX1_holdsAt_43 (by decide) ?_
                  simp only [qs0m39_X1_holdsAt_19, if_neg c_39] at hJ_39
                  exact ev_loc hJ_39 cw_le0
              simp only [qs0m28_X1_holdsAt_19, if_neg c_28] at hJ_28
              exact ev_loc hJ_28 cw_le0
          simp only [qs0m17_X1_holdsAt_19, if_neg c_17] at hJ_17
          exact ev_loc hJ_17 cw_le0
      simp only [qs0m7_X1_holdsAt_19, if_pos c_7] at hJ_7
      exact ev_loc hJ_7 cw_le0
  exact ev_zret (pc := 47) dX1_holdsAt_47 rfl (cw_nz (cw_ite (cw_ite (Or.inl rfl) (cw_ite (Or.inl rfl) (cw_ite (Or.inl rfl) (Or.inr rfl)))) (Or.inl rfl))) (by decide) (by decide) (hQ _ _ ⟨rfl, rfl⟩)

theorem z1_X1_holdsAt_19 (n : Nat) (I : Nat → Nat → Int32) (A : Nat → Nat → Int32) (J : Nat → Nat → Int64) (t : Bool × Bool) (x1 : Int32) (x2 : Int32) (x3 : Int32) (x4 : Int32) : px_X1_holdsAt_19 n I A J t x1 x2 x3 x4 = 0 ∨ px_X1_holdsAt_19 n I A J t x1 x2 x3 x4 = 1 := (cw_ite (cw_ite (Or.inl rfl) (cw_ite (Or.inl rfl) (cw_ite (Or.inl rfl) (Or.inr rfl)))) (Or.inl rfl))

def pb_X1_noticesOn_19 (n : Nat) (I : Nat → Nat → Int32) (A : Nat → Nat → Int32) (J : Nat → Nat → Int64) (t : Bool × Bool) (x1 : Int32) : Prop := vp_in x1 6
def px_X1_noticesOn_19 (n : Nat) (I : Nat → Nat → Int32) (A : Nat → Nat → Int32) (J : Nat → Nat → Int64) (t : Bool × Bool) (x1 : Int32) : Int32 := (A 28 (x1).toNatClampNeg)
set_option maxRecDepth 100000 in
set_option maxHeartbeats 4000000 in
theorem cv_X1_noticesOn_19 (g : cw_G) (n : Nat) (I : Nat → Nat → Int32) (A : Nat → Nat → Int32) (J : Nat → Nat → Int64) (t : Bool × Bool) (x1 : Int32) (hb : pb_X1_noticesOn_19 n I A J t x1) : Cd g mX1_noticesOn [(.ref (cw_z g + 19)), (.int x1)] (hp g I A J t) (some (.int (px_X1_noticesOn_19 n I A J t x1))) (hp g I A J t) := by
  unfold pb_X1_noticesOn_19 at hb
  unfold px_X1_noticesOn_19
  refine Cd.of rfl (Nat.le_of_ble_eq_true rfl) (ev_gen (fun Q hQ => ?_))
  refine ev_aload_n (pc := 0) dX1_noticesOn_0 rfl ?_
  refine tv_getr (pc := 1) (d := 28) dX1_noticesOn_1 fl_X1_36 (by decide) rfl rfl ?_
  refine ev_iload_n (pc := 4) dX1_noticesOn_4 rfl ?_
  refine ev_iald (pc := 5) dX1_noticesOn_5 (by decide) rfl hb ?_
  exact ev_iret (pc := 6) dX1_noticesOn_6 rfl (by decide) (by decide) (hQ _ _ ⟨rfl, rfl⟩)

def pb_X1_noticeOn_19 (n : Nat) (I : Nat → Nat → Int32) (A : Nat → Nat → Int32) (J : Nat → Nat → Int64) (t : Bool × Bool) (x1 : Int32) (x2 : Int32) : Prop := vp_in ((x1 * 300) + x2) 1800
def px_X1_noticeOn_19 (n : Nat) (I : Nat → Nat → Int32) (A : Nat → Nat → Int32) (J : Nat → Nat → Int64) (t : Bool × Bool) (x1 : Int32) (x2 : Int32) : Int32 := (A 27 (((x1 * 300) + x2)).toNatClampNeg)
set_option maxRecDepth 100000 in
set_option maxHeartbeats 4000000 in
theorem cv_X1_noticeOn_19 (g : cw_G) (n : Nat) (I : Nat → Nat → Int32) (A : Nat → Nat → Int32) (J : Nat → Nat → Int64) (t : Bool × Bool) (x1 : Int32) (x2 : Int32) (hb : pb_X1_noticeOn_19 n I A J t x1 x2) : Cd g mX1_noticeOn [(.ref (cw_z g + 19)), (.int x1), (.int x2)] (hp g I A J t) (some (.int (px_X1_noticeOn_19 n I A J t x1 x2))) (hp g I A J t) := by
  unfold pb_X1_noticeOn_19 at hb
  unfold px_X1_noticeOn_19
  refine Cd.of rfl (Nat.le_of_ble_eq_true rfl) (ev_gen (fun Q hQ => ?_))
  refine ev_aload_n (pc := 0) dX1_noticeOn_0 rfl ?_
  refine tv_getr (pc := 1) (d := 27) dX1_noticeOn_1 fl_X1_33 (by decide) rfl rfl ?_
  refine ev_iload_n (pc := 4) dX1_noticeOn_4 rfl ?_
  refine ev_sipush (pc := 5) (v := 300) dX1_noticeOn_5 (by decide) ?_
  refine ev_imul (pc := 8) dX1_noticeOn_8 ?_
  refine ev_iload_n (pc := 9) dX1_noticeOn_9 rfl ?_
  refine ev_iadd (pc := 10) dX1_noticeOn_10 ?_
  refine ev_iald (pc := 11) dX1_noticeOn_11 (by decide) rfl hb ?_
  exact ev_iret (pc := 12) dX1_noticeOn_12 rfl (by decide) (by decide) (hQ _ _ ⟨rfl, rfl⟩)

def pb_X1_siteOf_19 (n : Nat) (I : Nat → Nat → Int32) (A : Nat → Nat → Int32) (J : Nat → Nat → Int64) (t : Bool × Bool) (x1 : Int32) : Prop := vp_in x1 300
def px_X1_siteOf_19 (n : Nat) (I : Nat → Nat → Int32) (A : Nat → Nat → Int32) (J : Nat → Nat → Int64) (t : Bool × Bool) (x1 : Int32) : Int32 := (A 20 (x1).toNatClampNeg)
set_option maxRecDepth 100000 in
set_option maxHeartbeats 4000000 in
theorem cv_X1_siteOf_19 (g : cw_G) (n : Nat) (I : Nat → Nat → Int32) (A : Nat → Nat → Int32) (J : Nat → Nat → Int64) (t : Bool × Bool) (x1 : Int32) (hb : pb_X1_siteOf_19 n I A J t x1) : Cd g mX1_siteOf [(.ref (cw_z g + 19)), (.int x1)] (hp g I A J t) (some (.int (px_X1_siteOf_19 n I A J t x1))) (hp g I A J t) := by
  unfold pb_X1_siteOf_19 at hb
  unfold px_X1_siteOf_19
  refine Cd.of rfl (Nat.le_of_ble_eq_true rfl) (ev_gen (fun Q hQ => ?_))
  refine ev_aload_n (pc := 0) dX1_siteOf_0 rfl ?_
  refine tv_getr (pc := 1) (d := 20) dX1_siteOf_1 fl_X1_9 (by decide) rfl rfl ?_
  refine ev_iload_n (pc := 4) dX1_siteOf_4 rfl ?_
  refine ev_iald (pc := 5) dX1_siteOf_5 (by decide) rfl hb ?_
  exact ev_iret (pc := 6) dX1_siteOf_6 rfl (by decide) (by decide) (hQ _ _ ⟨rfl, rfl⟩)

def pb_X1_landOf_19 (n : Nat) (I : Nat → Nat → Int32) (A : Nat → Nat → Int32) (J : Nat → Nat → Int64) (t : Bool × Bool) (x1 : Int32) : Prop := vp_in x1 300
def px_X1_landOf_19 (n : Nat) (I : Nat → Nat → Int32) (A : Nat → Nat → Int32) (J : Nat → Nat → Int64) (t : Bool × Bool) (x1 : Int32) : Int32 := (A 21 (x1).toNatClampNeg)
set_option maxRecDepth 100000 in
set_option maxHeartbeats 4000000 in
theorem cv_X1_landOf_19 (g : cw_G) (n : Nat) (I : Nat → Nat → Int32) (A : Nat → Nat → Int32) (J : Nat → Nat → Int64) (t : Bool × Bool) (x1 : Int32) (hb : pb_X1_landOf_19 n I A J t x1) : Cd g mX1_landOf [(.ref (cw_z g + 19)), (.int x1)] (hp g I A J t) (some (.int (px_X1_landOf_19 n I A J t x1))) (hp g I A J t) := by
  unfold pb_X1_landOf_19 at hb
  unfold px_X1_landOf_19
  refine Cd.of rfl (Nat.le_of_ble_eq_true rfl) (ev_gen (fun Q hQ => ?_))
  refine ev_aload_n (pc := 0) dX1_landOf_0 rfl ?_
  refine tv_getr (pc := 1) (d := 21) dX1_landOf_1 fl_X1_15 (by decide) rfl rfl ?_
  refine ev_iload_n (pc := 4) dX1_landOf_4 rfl ?_
  refine ev_iald (pc := 5) dX1_landOf_5 (by decide) rfl hb ?_
  exact ev_iret (pc := 6) dX1_landOf_6 rfl (by decide) (by decide) (hQ _ _ ⟨rfl, rfl⟩)

def pb_X1_bandOf_19 (n : Nat) (I : Nat → Nat → Int32) (A : Nat → Nat → Int32) (J : Nat → Nat → Int64) (t : Bool × Bool) (x1 : Int32) : Prop := vp_in x1 300
def px_X1_bandOf_19 (n : Nat) (I : Nat → Nat → Int32) (A : Nat → Nat → Int32) (J : Nat → Nat → Int64) (t : Bool × Bool) (x1 : Int32) : Int32 := (A 22 (x1).toNatClampNeg)
set_option maxRecDepth 100000 in
set_option maxHeartbeats 4000000 in
theorem cv_X1_bandOf_19 (g : cw_G) (n : Nat) (I : Nat → Nat → Int32) (A : Nat → Nat → Int32) (J : Nat → Nat → Int64) (t : Bool × Bool) (x1 : Int32) (hb : pb_X1_bandOf_19 n I A J t x1) : Cd g mX1_bandOf [(.ref (cw_z g + 19)), (.int x1)] (hp g I A J t) (some (.int (px_X1_bandOf_19 n I A J t x1))) (hp g I A J t) := by
  unfold pb_X1_bandOf_19 at hb
  unfold px_X1_bandOf_19
  refine Cd.of rfl (Nat.le_of_ble_eq_true rfl) (ev_gen (fun Q hQ => ?_))
  refine ev_aload_n (pc := 0) dX1_bandOf_0 rfl ?_
  refine tv_getr (pc := 1) (d := 22) dX1_bandOf_1 fl_X1_18 (by decide) rfl rfl ?_
  refine ev_iload_n (pc := 4) dX1_bandOf_4 rfl ?_
  refine ev_iald (pc := 5) dX1_bandOf_5 (by decide) rfl hb ?_
  exact ev_iret (pc := 6) dX1_bandOf_6 rfl (by decide) (by decide) (hQ _ _ ⟨rfl, rfl⟩)

def pb_X1_fromOf_19 (n : Nat) (I : Nat → Nat → Int32) (A : Nat → Nat → Int32) (J : Nat → Nat → Int64) (t : Bool × Bool) (x1 : Int32) : Prop := vp_in x1 300
def px_X1_fromOf_19 (n : Nat) (I : Nat → Nat → Int32) (A : Nat → Nat → Int32) (J : Nat → Nat → Int64) (t : Bool × Bool) (x1 : Int32) : Int32 := (A 23 (x1).toNatClampNeg)
set_option maxRecDepth 100000 in
set_option maxHeartbeats 4000000 in
theorem cv_X1_fromOf_19 (g : cw_G) (n : Nat) (I : Nat → Nat → Int32) (A : Nat → Nat → Int32) (J : Nat → Nat → Int64) (t : Bool × Bool) (x1 : Int32) (hb : pb_X1_fromOf_19 n I A J t x1) : Cd g mX1_fromOf [(.ref (cw_z g + 19)), (.int x1)] (hp g I A J t) (some (.int (px_X1_fromOf_19 n I A J t x1))) (hp g I A J t) := by
  unfold pb_X1_fromOf_19 at hb
  unfold px_X1_fromOf_19
  refine Cd.of rfl (Nat.le_of_ble_eq_true rfl) (ev_gen (fun Q hQ => ?_))
  refine ev_aload_n (pc := 0) dX1_fromOf_0 rfl ?_
  refine tv_getr (pc := 1) (d := 23) dX1_fromOf_1 fl_X1_21 (by decide) rfl rfl ?_
  refine ev_iload_n (pc := 4) dX1_fromOf_4 rfl ?_
  refine ev_iald (pc := 5) dX1_fromOf_5 (by decide) rfl hb ?_
  exact ev_iret (pc := 6) dX1_fromOf_6 rfl (by decide) (by decide) (hQ _ _ ⟨rfl, rfl⟩)

def pb_X1_dayOf_19 (n : Nat) (I : Nat → Nat → Int32) (A : Nat → Nat → Int32) (J : Nat → Nat → Int64) (t : Bool × Bool) (x1 : Int32) : Prop := vp_in x1 300
def px_X1_dayOf_19 (n : Nat) (I : Nat → Nat → Int32) (A : Nat → Nat → Int32) (J : Nat → Nat → Int64) (t : Bool × Bool) (x1 : Int32) : Int32 := (A 25 (x1).toNatClampNeg)
set_option maxRecDepth 100000 in
set_option maxHeartbeats 4000000 in
theorem cv_X1_dayOf_19 (g : cw_G) (n : Nat) (I : Nat → Nat → Int32) (A : Nat → Nat → Int32) (J : Nat → Nat → Int64) (t : Bool × Bool) (x1 : Int32) (hb : pb_X1_dayOf_19 n I A J t x1) : Cd g mX1_dayOf [(.ref (cw_z g + 19)), (.int x1)] (hp g I A J t) (some (.int (px_X1_dayOf_19 n I A J t x1))) (hp g I A J t) := by
  unfold pb_X1_dayOf_19 at hb
  unfold px_X1_dayOf_19
  refine Cd.of rfl (Nat.le_of_ble_eq_true rfl) (ev_gen (fun Q hQ => ?_))
  refine ev_aload_n (pc := 0) dX1_dayOf_0 rfl ?_
  refine tv_getr (pc := 1) (d := 25) dX1_dayOf_1 fl_X1_27 (by decide) rfl rfl ?_
  refine ev_iload_n (pc := 4) dX1_dayOf_4 rfl ?_
  refine ev_iald (pc := 5) dX1_dayOf_5 (by decide) rfl hb ?_
  exact ev_iret (pc := 6) dX1_dayOf_6 rfl (by decide) (by decide) (hQ _ _ ⟨rfl, rfl⟩)

def pb_X1_heardOf_19 (n : Nat) (I : Nat → Nat → Int32) (A : Nat → Nat → Int32) (J : Nat → Nat → Int64) (t : Bool × Bool) (x1 : Int32) : Prop := vp_in x1 300
def px_X1_heardOf_19 (n : Nat) (I : Nat → Nat → Int32) (A : Nat → Nat → Int32) (J : Nat → Nat → Int64) (t : Bool × Bool) (x1 : Int32) : Int32 := (A 26 (x1).toNatClampNeg)
set_option maxRecDepth 100000 in
set_option maxHeartbeats 4000000 in
theorem cv_X1_heardOf_19 (g : cw_G) (n : Nat) (I : Nat → Nat → Int32) (A : Nat → Nat → Int32) (J : Nat → Nat → Int64) (t : Bool × Bool) (x1 : Int32) (hb : pb_X1_heardOf_19 n I A J t x1) : Cd g mX1_heardOf [(.ref (cw_z g + 19)), (.int x1)] (hp g I A J t) (some (.int (px_X1_heardOf_19 n I A J t x1))) (hp g I A J t) := by
  unfold pb_X1_heardOf_19 at hb
  unfold px_X1_heardOf_19
  refine Cd.of rfl (Nat.le_of_ble_eq_true rfl) (ev_gen (fun Q hQ => ?_))
  refine ev_aload_n (pc := 0) dX1_heardOf_0 rfl ?_
  refine tv_getr (pc := 1) (d := 26) dX1_heardOf_1 fl_X1_30 (by decide) rfl rfl ?_
  refine ev_iload_n (pc := 4) dX1_heardOf_4 rfl ?_
  refine ev_iald (pc := 5) dX1_heardOf_5 (by decide) rfl hb ?_
  exact ev_iret (pc := 6) dX1_heardOf_6 rfl (by decide) (by decide) (hQ _ _ ⟨rfl, rfl⟩)
