def qs0m23_X9_light (n : Nat) (I : Nat → Nat → Int32) (A : Nat → Nat → Int32) (J : Nat → Nat → Int64) (t : Bool × Bool) (x1 : Int32) (x2 : Int32) (x3 : Int32) (x4 : Int32) : Int32 := if (x3 + x4) < x1 then 0 else 1
def qs0m16_X9_light (n : Nat) (I : Nat → Nat → Int32) (A : Nat → Nat → Int32) (J : Nat → Nat → Int64) (t : Bool × Bool) (x1 : Int32) (x2 : Int32) (x3 : Int32) (x4 : Int32) : Int32 := if x1 < (x2 - x4) then 0 else (qs0m23_X9_light n I A J t x1 x2 x3 x4)
def px_X9_light (n : Nat) (I : Nat → Nat → Int32) (A : Nat → Nat → Int32) (J : Nat → Nat → Int64) (t : Bool × Bool) (x1 : Int32) (x2 : Int32) (x3 : Int32) (x4 : Int32) : Int32 := (if x1 < x2 then (qs0m16_X9_light n I A J t x1 x2 x3 x4) else (if x3 < x1 then (qs0m16_X9_light n I A J t x1 x2 x3 x4) else 2))
set_option maxRecDepth 100000 in
set_option maxHeartbeats 4000000 in
theorem cv_X9_light (g : cw_G) (n : Nat) (I : Nat → Nat → Int32) (A : Nat → Nat → Int32) (J : Nat → Nat → Int64) (t : Bool × Bool) (x1 : Int32) (x2 : Int32) (x3 : Int32) (x4 : Int32) : Cd g mX9_light [(.int x1), (.int x2), (.int x3), (.int x4)] (hp g I A J t) (some (.int (px_X9_light n I A J t x1 x2 x3 x4))) (hp g I A J t) := by
  unfold px_X9_light
  refine Cd.of rfl (Nat.le_of_ble_eq_true rfl) (ev_gen (fun Q hQ => ?_))
  refine ev_iload_n (pc := 0) dX9_light_0 rfl ?_
  refine ev_iload_n (pc := 1) dX9_light_1 rfl ?_
  refine ev_icmp_lt (pc := 2) (tgt := 12) dX9_light_2 (by decide) (fun c_2 => ?_) (fun c_2 => ?_)
  · try simp only [if_pos c_2] at hQ
    refine ev_iload_n (pc := 12) dX9_light_12 rfl ?_
    refine ev_iload_n (pc := 13) dX9_light_13 rfl ?_
    refine ev_iload_n (pc := 14) dX9_light_14 rfl ?_
    refine ev_isub (pc := 15) dX9_light_15 ?_
    refine ev_cut (pj := 31) (Lj := [some (.int x1), some (.int x2), some (.int x3), some (.int x4)]) (stj := [(.int (qs0m16_X9_light n I A J t x1 x2 x3 x4))]) (σj := hp g I A J t) ?_ (fun hJ_16 => ?_)
    rotate_left
    · refine ev_icmp_lt (pc := 16) (tgt := 30) dX9_light_16 (by decide) (fun c_16 => ?_) (fun c_16 => ?_)
      · refine ev_iconst (pc := 30) (v := 0) dX9_light_30 (by decide) ?_
        simp only [qs0m16_X9_light, if_pos c_16] at hJ_16
        exact ev_loc hJ_16 cw_le0
      · refine ev_iload_n (pc := 19) dX9_light_19 rfl ?_
        refine ev_iload_n (pc := 20) dX9_light_20 rfl ?_
        refine ev_iload_n (pc := 21) dX9_light_21 rfl ?_
        refine ev_iadd (pc := 22) dX9_light_22 ?_
        refine ev_cut (pj := 31) (Lj := [some (.int x1), some (.int x2), some (.int x3), some (.int x4)]) (stj := [(.int (qs0m23_X9_light n I A J t x1 x2 x3 x4))]) (σj := hp g I A J t) ?_ (fun hJ_23 => ?_)
        rotate_left
        · refine ev_icmp_gt (pc := 23) (tgt := 30) dX9_light_23 (by decide) (fun c_23 => ?_) (fun c_23 => ?_)
          · refine ev_iconst (pc := 30) (v := 0) dX9_light_30 (by decide) ?_
            simp only [qs0m23_X9_light, if_pos c_23] at hJ_23
            exact ev_loc hJ_23 cw_le0
          · refine ev_iconst (pc := 26) (v := 1) dX9_light_26 (by decide) ?_
            refine ev_goto (pc := 27) (tgt := 31) dX9_light_27 (by decide) ?_
            simp only [qs0m23_X9_light, if_neg c_23] at hJ_23
            exact ev_loc hJ_23 cw_le0
        simp only [qs0m16_X9_light, if_neg c_16] at hJ_16
        exact ev_loc hJ_16 cw_le0
    exact ev_iret (pc := 31) dX9_light_31 rfl (by decide) (by decide) (hQ _ _ ⟨rfl, rfl⟩)
  · try simp only [if_neg c_2] at hQ
    refine ev_iload_n (pc := 5) dX9_light_5 rfl ?_
    refine ev_iload_n (pc := 6) dX9_light_6 rfl ?_
    refine ev_icmp_gt (pc := 7) (tgt := 12) dX9_light_7 (by decide) (fun c_7 => ?_) (fun c_7 => ?_)
    · try simp only [if_pos c_7] at hQ
      refine ev_iload_n (pc := 12) dX9_light_12 rfl ?_
      refine ev_iload_n (pc := 13) dX9_light_13 rfl ?_
      refine ev_iload_n (pc := 14) dX9_light_14 rfl ?_
      refine ev_isub (pc := 15) dX9_light_15 ?_
      refine ev_cut (pj := 31) (Lj := [some (.int x1), some (.int x2), some (.int x3), some (.int x4)]) (stj := [(.int (qs0m16_X9_light n I A J t x1 x2 x3 x4))]) (σj := hp g I A J t) ?_ (fun hJ_16 => ?_)
      rotate_left
      · refine ev_icmp_lt (pc := 16) (tgt := 30) dX9_light_16 (by decide) (fun c_16 => ?_) (fun c_16 => ?_)
        · refine ev_iconst (pc := 30) (v := 0) dX9_light_30 (by decide) ?_
          simp only [qs0m16_X9_light, if_pos c_16] at hJ_16
          exact ev_loc hJ_16 cw_le0
        · refine ev_iload_n (pc := 19) dX9_light_19 rfl ?_
          refine ev_iload_n (pc := 20) dX9_light_20 rfl ?_
          refine ev_iload_n (pc := 21) dX9_light_21 rfl ?_
          refine ev_iadd (pc := 22) dX9_light_22 ?_
          refine ev_cut (pj := 31) (Lj := [some (.int x1), some (.int x2), some (.int x3), some (.int x4)]) (stj := [(.int (qs0m23_X9_light n I A J t x1 x2 x3 x4))]) (σj := hp g I A J t) ?_ (fun hJ_23 => ?_)
          rotate_left
          · refine ev_icmp_gt (pc := 23) (tgt := 30) dX9_light_23 (by decide) (fun c_23 => ?_) (fun c_23 => ?_)
            · refine ev_iconst (pc := 30) (v := 0) dX9_light_30 (by decide) ?_
              simp only [qs0m23_X9_light, if_pos c_23] at hJ_23
              exact ev_loc hJ_23 cw_le0
            · refine ev_iconst (pc := 26) (v := 1) dX9_light_26 (by decide) ?_
              refine ev_goto (pc := 27) (tgt := 31) dX9_light_27 (by decide) ?_
              simp only [qs0m23_X9_light, if_neg c_23] at hJ_23
              exact ev_loc hJ_23 cw_le0
          simp only [qs0m16_X9_light, if_neg c_16] at hJ_16
          exact ev_loc hJ_16 cw_le0
      exact ev_iret (pc := 31) dX9_light_31 rfl (by decide) (by decide) (hQ _ _ ⟨rfl, rfl⟩)
    · try simp only [if_neg c_7] at hQ
      refine ev_iconst (pc := 10) (v := 2) dX9_light_10 (by decide) ?_
      exact ev_iret (pc := 11) dX9_light_11 rfl (by decide) (by decide) (hQ _ _ ⟨rfl, rfl⟩)

def qs0m9_X9_has_1 (n : Nat) (I : Nat → Nat → Int32) (A : Nat → Nat → Int32) (J : Nat → Nat → Int64) (t : Bool × Bool) (x1 : Int32) : Int32 := if (I 1 3) ≤ x1 then 0 else 1
def qs0m1_X9_has_1 (n : Nat) (I : Nat → Nat → Int32) (A : Nat → Nat → Int32) (J : Nat → Nat → Int64) (t : Bool × Bool) (x1 : Int32) : Int32 := if x1 < 0 then 0 else (qs0m9_X9_has_1 n I A J t x1)
def px_X9_has_1 (n : Nat) (I : Nat → Nat → Int32) (A : Nat → Nat → Int32) (J : Nat → Nat → Int64) (t : Bool × Bool) (x1 : Int32) : Int32 := (qs0m1_X9_has_1 n I A J t x1)
set_option maxRecDepth 100000 in
set_option maxHeartbeats 4000000 in
theorem cv_X9_has_1 (g : cw_G) (n : Nat) (I : Nat → Nat → Int32) (A : Nat → Nat → Int32) (J : Nat → Nat → Int64) (t : Bool × Bool) (x1 : Int32) : Cd g mX9_has [(.ref (cw_z g + 1)), (.int x1)] (hp g I A J t) (some (.int (px_X9_has_1 n I A J t x1))) (hp g I A J t) := by
  unfold px_X9_has_1
  refine Cd.of rfl (Nat.le_of_ble_eq_true rfl) (ev_gen (fun Q hQ => ?_))
  refine ev_iload_n (pc := 0) dX9_has_0 rfl ?_
  refine ev_cut (pj := 17) (Lj := [some (.ref (cw_z g + 1)), some (.int x1)]) (stj := [(.int (qs0m1_X9_has_1 n I A J t x1))]) (σj := hp g I A J t) ?_ (fun hJ_1 => ?_)
  rotate_left
  · refine ev_if_lt (pc := 1) (tgt := 16) dX9_has_1 (by decide) (fun c_1 => ?_) (fun c_1 => ?_)
    · refine ev_iconst (pc := 16) (v := 0) dX9_has_16 (by decide) ?_
      simp only [qs0m1_X9_has_1, if_pos c_1] at hJ_1
      exact ev_loc hJ_1 cw_le0
    · refine ev_iload_n (pc := 4) dX9_has_4 rfl ?_
      refine ev_aload_n (pc := 5) dX9_has_5 rfl ?_
      refine tv_geti (pc := 6) dX9_has_6 fl_X9_9 (by decide) rfl rfl ?_
      refine ev_cut (pj := 17) (Lj := [some (.ref (cw_z g + 1)), some (.int x1)]) (stj := [(.int (qs0m9_X9_has_1 n I A J t x1))]) (σj := hp g I A J t) ?_ (fun hJ_9 => ?_)
      rotate_left
      · refine ev_icmp_ge (pc := 9) (tgt := 16) dX9_has_9 (by decide) (fun c_9 => ?_) (fun c_9 => ?_)
        · refine ev_iconst (pc := 16) (v := 0) dX9_has_16 (by decide) ?_
          simp only [qs0m9_X9_has_1, if_pos c_9] at hJ_9
          exact ev_loc hJ_9 cw_le0
        · refine ev_iconst (pc := 12) (v := 1) dX9_has_12 (by decide) ?_
          refine ev_goto (pc := 13) (tgt := 17) dX9_has_13 (by decide) ?_
          simp only [qs0m9_X9_has_1, if_neg c_9] at hJ_9
          exact ev_loc hJ_9 cw_le0
      simp only [qs0m1_X9_has_1, if_neg c_1] at hJ_1
      exact ev_loc hJ_1 cw_le0
  exact ev_zret (pc := 17) dX9_has_17 rfl (cw_nz (cw_ite (Or.inl rfl) (cw_ite (Or.inl rfl) (Or.inr rfl)))) (by decide) (by decide) (hQ _ _ ⟨rfl, rfl⟩)

theorem z1_X9_has_1 (n : Nat) (I : Nat → Nat → Int32) (A : Nat → Nat → Int32) (J : Nat → Nat → Int64) (t : Bool × Bool) (x1 : Int32) : px_X9_has_1 n I A J t x1 = 0 ∨ px_X9_has_1 n I A J t x1 = 1 := (cw_ite (Or.inl rfl) (cw_ite (Or.inl rfl) (Or.inr rfl)))

def qA23_X9_add_1 (n : Nat) (I : Nat → Nat → Int32) (A : Nat → Nat → Int32) (J : Nat → Nat → Int64) (t : Bool × Bool) (x1 : Int32) (x2 : Int32) (x3 : Int32) : Nat → Nat → Int32 := cw_u A 2 ((I 1 3)).toNatClampNeg x1
def qA33_X9_add_1 (n : Nat) (I : Nat → Nat → Int32) (A : Nat → Nat → Int32) (J : Nat → Nat → Int64) (t : Bool × Bool) (x1 : Int32) (x2 : Int32) (x3 : Int32) : Nat → Nat → Int32 := cw_u (qA23_X9_add_1 n I A J t x1 x2 x3) 3 ((I 1 3)).toNatClampNeg x2
def qA43_X9_add_1 (n : Nat) (I : Nat → Nat → Int32) (A : Nat → Nat → Int32) (J : Nat → Nat → Int64) (t : Bool × Bool) (x1 : Int32) (x2 : Int32) (x3 : Int32) : Nat → Nat → Int32 := cw_u (qA33_X9_add_1 n I A J t x1 x2 x3) 4 ((I 1 3)).toNatClampNeg x3
def qI51_X9_add_1 (n : Nat) (I : Nat → Nat → Int32) (A : Nat → Nat → Int32) (J : Nat → Nat → Int64) (t : Bool × Bool) (x1 : Int32) (x2 : Int32) (x3 : Int32) : Nat → Nat → Int32 := cw_u I 1 3 ((I 1 3) + 1)
def pb_X9_add_1 (n : Nat) (I : Nat → Nat → Int32) (A : Nat → Nat → Int32) (J : Nat → Nat → Int64) (t : Bool × Bool) (x1 : Int32) (x2 : Int32) (x3 : Int32) : Prop := ((I 1 3) < (nI 8) → vp_in (I 1 3) 8 ∧ vp_in (I 1 3) 8 ∧ vp_in (I 1 3) 8)
def px_X9_add_1 (n : Nat) (I : Nat → Nat → Int32) (A : Nat → Nat → Int32) (J : Nat → Nat → Int64) (t : Bool × Bool) (x1 : Int32) (x2 : Int32) (x3 : Int32) : Int32 := (if (I 1 3) < (nI 8) then (((qI51_X9_add_1 n I A J t x1 x2 x3) 1 3) - 1) else (-1))
def pI_X9_add_1 (n : Nat) (I : Nat → Nat → Int32) (A : Nat → Nat → Int32) (J : Nat → Nat → Int64) (t : Bool × Bool) (x1 : Int32) (x2 : Int32) (x3 : Int32) : Nat → Nat → Int32 := (if (I 1 3) < (nI 8) then (qI51_X9_add_1 n I A J t x1 x2 x3) else I)
def pA_X9_add_1 (n : Nat) (I : Nat → Nat → Int32) (A : Nat → Nat → Int32) (J : Nat → Nat → Int64) (t : Bool × Bool) (x1 : Int32) (x2 : Int32) (x3 : Int32) : Nat → Nat → Int32 := (if (I 1 3) < (nI 8) then (qA43_X9_add_1 n I A J t x1 x2 x3) else A)
set_option maxRecDepth 100000 in
set_option maxHeartbeats 4000000 in
theorem cv_X9_add_1 (g : cw_G) (n : Nat) (I : Nat → Nat → Int32) (A : Nat → Nat → Int32) (J : Nat → Nat → Int64) (t : Bool × Bool) (x1 : Int32) (x2 : Int32) (x3 : Int32) (hb : pb_X9_add_1 n I A J t x1 x2 x3) : Cd g mX9_add [(.ref (cw_z g + 1)), (.int x1), (.int x2), (.int x3)] (hp g I A J t) (some (.int (px_X9_add_1 n I A J t x1 x2 x3))) (hp g (pI_X9_add_1 n I A J t x1 x2 x3) (pA_X9_add_1 n I A J t x1 x2 x3) J t) := by
  unfold pb_X9_add_1 at hb
  unfold px_X9_add_1 pI_X9_add_1 pA_X9_add_1
  refine Cd.of rfl (Nat.le_of_ble_eq_true rfl) (ev_gen (fun Q hQ => ?_))
  refine ev_aload_n (pc := 0) dX9_add_0 rfl ?_
  refine tv_geti (pc := 1) dX9_add_1 fl_X9_9 (by decide) rfl rfl ?_
  refine ev_aload_n (pc := 4) dX9_add_4 rfl ?_
  refine tv_getr (pc := 5) (d := 2) dX9_add_5 fl_X9_15 (by decide) rfl rfl ?_
  refine ev_alen (pc := 8) dX9_add_8 (show 2 < 120 by decide) rfl (by decide) ?_
  have hT_9 := hb
  refine ev_icmp_lt (pc := 9) (tgt := 14) dX9_add_9 (by decide) (fun c_9 => ?_) (fun c_9 => ?_)
  · have hb := hT_9 c_9
    try simp only [if_pos c_9] at hQ
    refine ev_aload_n (pc := 14) dX9_add_14 rfl ?_
    refine tv_getr (pc := 15) (d := 2) dX9_add_15 fl_X9_15 (by decide) rfl rfl ?_
    refine ev_aload_n (pc := 18) dX9_add_18 rfl ?_
    refine tv_geti (pc := 19) dX9_add_19 fl_X9_9 (by decide) rfl rfl ?_
    refine ev_iload_n (pc := 22) dX9_add_22 rfl ?_
    refine tw_iast (pc := 23) (A2 := (qA23_X9_add_1 n I A J t x1 x2 x3)) dX9_add_23 (by decide) rfl hb.1 rfl ?_
    replace hb := hb.2
    refine ev_aload_n (pc := 24) dX9_add_24 rfl ?_
    refine tv_getr (pc := 25) (d := 3) dX9_add_25 fl_X9_19 (by decide) rfl rfl ?_
    refine ev_aload_n (pc := 28) dX9_add_28 rfl ?_
    refine tv_geti (pc := 29) dX9_add_29 fl_X9_9 (by decide) rfl rfl ?_
    refine ev_iload_n (pc := 32) dX9_add_32 rfl ?_
    refine tw_iast (pc := 33) (A2 := (qA33_X9_add_1 n I A J t x1 x2 x3)) dX9_add_33 (by decide) rfl hb.1 rfl ?_
    replace hb := hb.2
    refine ev_aload_n (pc := 34) dX9_add_34 rfl ?_
    refine tv_getr (pc := 35) (d := 4) dX9_add_35 fl_X9_22 (by decide) rfl rfl ?_
    refine ev_aload_n (pc := 38) dX9_add_38 rfl ?_
    refine tv_geti (pc := 39) dX9_add_39 fl_X9_9 (by decide) rfl rfl ?_
    refine ev_iload_n (pc := 42) dX9_add_42 rfl ?_
    refine tw_iast (pc := 43) (A2 := (qA43_X9_add_1 n I A J t x1 x2 x3)) dX9_add_43 (by decide) rfl hb rfl ?_
    refine ev_aload_n (pc := 44) dX9_add_44 rfl ?_
    refine ev_dup (pc := 45) dX9_add_45 rfl ?_
    refine tv_geti (pc := 46) dX9_add_46 fl_X9_9 (by decide) rfl rfl ?_
    refine ev_iconst (pc := 49) (v := 1) dX9_add_49 (by decide) ?_
    refine ev_iadd (pc := 50) dX9_add_50 ?_
    refine tw_puti (pc := 51) (I2 := (qI51_X9_add_1 n I A J t x1 x2 x3)) dX9_add_51 fp_X9_9 (by decide) rfl rfl rfl ?_
    refine ev_aload_n (pc := 54) dX9_add_54 rfl ?_
    refine tv_geti (pc := 55) dX9_add_55 fl_X9_9 (by decide) rfl rfl ?_
    refine ev_iconst (pc := 58) (v := 1) dX9_add_58 (by decide) ?_
    refine ev_isub (pc := 59) dX9_add_59 ?_
    exact ev_iret (pc := 60) dX9_add_60 rfl (by decide) (by decide) (hQ _ _ ⟨rfl, rfl⟩)
  · try simp only [if_neg c_9] at hQ
    refine ev_iconst (pc := 12) (v := (-1)) dX9_add_12 (by decide) ?_
    exact ev_iret (pc := 13) dX9_add_13 rfl (by decide) (by decide) (hQ _ _ ⟨rfl, rfl⟩)

def pb_X9_listenersOf_1 (n : Nat) (I : Nat → Nat → Int32) (A : Nat → Nat → Int32) (J : Nat → Nat → Int64) (t : Bool × Bool) (x1 : Int32) : Prop := vp_in x1 8
def px_X9_listenersOf_1 (n : Nat) (I : Nat → Nat → Int32) (A : Nat → Nat → Int32) (J : Nat → Nat → Int64) (t : Bool × Bool) (x1 : Int32) : Int32 := (A 4 (x1).toNatClampNeg)
set_option maxRecDepth 100000 in
set_option maxHeartbeats 4000000 in
theorem cv_X9_listenersOf_1 (g : cw_G) (n : Nat) (I : Nat → Nat → Int32) (A : Nat → Nat → Int32) (J : Nat → Nat → Int64) (t : Bool × Bool) (x1 : Int32) (hb : pb_X9_listenersOf_1 n I A J t x1) : Cd g mX9_listenersOf [(.ref (cw_z g + 1)), (.int x1)] (hp g I A J t) (some (.int (px_X9_listenersOf_1 n I A J t x1))) (hp g I A J t) := by
  unfold pb_X9_listenersOf_1 at hb
  unfold px_X9_listenersOf_1
  refine Cd.of rfl (Nat.le_of_ble_eq_true rfl) (ev_gen (fun Q hQ => ?_))
  refine ev_aload_n (pc := 0) dX9_listenersOf_0 rfl ?_
  refine tv_getr (pc := 1) (d := 4) dX9_listenersOf_1 fl_X9_22 (by decide) rfl rfl ?_
  refine ev_iload_n (pc := 4) dX9_listenersOf_4 rfl ?_
  refine ev_iald (pc := 5) dX9_listenersOf_5 (by decide) rfl hb ?_
  exact ev_iret (pc := 6) dX9_listenersOf_6 rfl (by decide) (by decide) (hQ _ _ ⟨rfl, rfl⟩)

def q11_X9_sunAt_1 (n : Nat) (I : Nat → Nat → Int32) (A : Nat → Nat → Int32) (J : Nat → Nat → Int64) (t : Bool × Bool) (x1 : Int32) (x2 : Int32) (x3 : Int32) : Int32 := (cw_rem (x3 + (A 2 (x1).toNatClampNeg)) 24)
def q17_X9_sunAt_1 (n : Nat) (I : Nat → Nat → Int32) (A : Nat → Nat → Int32) (J : Nat → Nat → Int64) (t : Bool × Bool) (x1 : Int32) (x2 : Int32) (x3 : Int32) : Int32 := (px_X11_seasonOf n I A J t x2)
def qs0m26_X9_sunAt_1 (n : Nat) (I : Nat → Nat → Int32) (A : Nat → Nat → Int32) (J : Nat → Nat → Int64) (t : Bool × Bool) (x1 : Int32) (x2 : Int32) (x3 : Int32) : Int32 := if 2 < (A 3 (x1).toNatClampNeg) then 0 else 1
def qs0m43_X9_sunAt_1 (n : Nat) (I : Nat → Nat → Int32) (A : Nat → Nat → Int32) (J : Nat → Nat → Int64) (t : Bool × Bool) (x1 : Int32) (x2 : Int32) (x3 : Int32) : Int32 := if (A 3 (x1).toNatClampNeg) < 4 then 0 else 1
def pb_X9_sunAt_1 (n : Nat) (I : Nat → Nat → Int32) (A : Nat → Nat → Int32) (J : Nat → Nat → Int64) (t : Bool × Bool) (x1 : Int32) (x2 : Int32) (x3 : Int32) : Prop := vp_in x1 8 ∧ vp_in x1 8 ∧ vp_in x1 8
def px_X9_sunAt_1 (n : Nat) (I : Nat → Nat → Int32) (A : Nat → Nat → Int32) (J : Nat → Nat → Int64) (t : Bool × Bool) (x1 : Int32) (x2 : Int32) (x3 : Int32) : Int32 := (if (q17_X9_sunAt_1 n I A J t x1 x2 x3) = 1 then (if (qs0m26_X9_sunAt_1 n I A J t x1 x2 x3) = 0 then (if (q17_X9_sunAt_1 n I A J t x1 x2 x3) = 3 then (if (qs0m43_X9_sunAt_1 n I A J t x1 x2 x3) = 0 then (px_X9_light n I A J t (q11_X9_sunAt_1 n I A J t x1 x2 x3) 7 16 2) else (px_X9_light n I A J t (q11_X9_sunAt_1 n I A J t x1 x2 x3) 5 18 1)) else (if (qs0m43_X9_sunAt_1 n I A J t x1 x2 x3) = 0 then (px_X9_light n I A J t (q11_X9_sunAt_1 n I A J t x1 x2 x3) 7 16 2) else (px_X9_light n I A J t (q11_X9_sunAt_1 n I A J t x1 x2 x3) 8 15 1))) else (px_X9_light n I A J t (q11_X9_sunAt_1 n I A J t x1 x2 x3) 5 18 1)) else (if (q17_X9_sunAt_1 n I A J t x1 x2 x3) = 3 then (if (qs0m43_X9_sunAt_1 n I A J t x1 x2 x3) = 0 then (if (qs0m26_X9_sunAt_1 n I A J t x1 x2 x3) = 0 then (px_X9_light n I A J t (q11_X9_sunAt_1 n I A J t x1 x2 x3) 7 16 2) else (px_X9_light n I A J t (q11_X9_sunAt_1 n I A J t x1 x2 x3) 8 15 1)) else (px_X9_light n I A J t (q11_X9_sunAt_1 n I A J t x1 x2 x3) 5 18 1)) else (px_X9_light n I A J t (q11_X9_sunAt_1 n I A J t x1 x2 x3) 7 16 2)))
set_option maxRecDepth 100000 in
set_option maxHeartbeats 4000000 in
theorem cv_X9_sunAt_1 (g : cw_G) (n : Nat) (I : Nat → Nat → Int32) (A : Nat → Nat → Int32) (J : Nat → Nat → Int64) (t : Bool × Bool) (x1 : Int32) (x2 : Int32) (x3 : Int32) (hb : pb_X9_sunAt_1 n I A J t x1 x2 x3) : Cd g mX9_sunAt [(.ref (cw_z g + 1)), (.int x1), (.int x2), (.int x3)] (hp g I A J t) (some (.int (px_X9_sunAt_1 n I A J t x1 x2 x3))) (hp g I A J t) := by
  unfold pb_X9_sunAt_1 at hb
  unfold px_X9_sunAt_1
  refine Cd.of rfl (Nat.le_of_ble_eq_true rfl) (ev_gen (fun Q hQ => ?_))
  refine ev_iload_n (pc := 0) dX9_sunAt_0 rfl ?_
  refine ev_aload_n (pc := 1) dX9_sunAt_1 rfl ?_
  refine tv_getr (pc := 2) (d := 2) dX9_sunAt_2 fl_X9_15 (by decide) rfl rfl ?_
  refine ev_iload_n (pc := 5) dX9_sunAt_5 rfl ?_
  refine ev_iald (pc := 6) dX9_sunAt_6 (by decide) rfl hb.1 ?_
  replace hb := hb.2
  refine ev_iadd (pc := 7) dX9_sunAt_7 ?_
  refine ev_bipush (pc := 8) (v := 24) dX9_sunAt_8 (by decide) ?_
  refine ev_rem (pc := 10) dX9_sunAt_10 (by decide) ?_
  refine ev_is (y := (q11_X9_sunAt_1 n I A J t x1 x2 x3)) rfl ?_
  refine ev_istore_4 (pc := 11) dX9_sunAt_11 (by decide) rfl ?_
  refine ev_iload_n (pc := 13) dX9_sunAt_13 rfl ?_
  refine ev_SNi (pc := 14) dX9_sunAt_14 ln_X9_25 cd_X11_seasonOf ar_X11_seasonOf ⟨by decide, rfl, rfl⟩ (cv_X11_seasonOf g n I A J t x2) rfl rfl (Nat.le_of_ble_eq_true rfl) ⟨by decide, by decide⟩ ?_
  refine ev_is (y := (q17_X9_sunAt_1 n I A J t x1 x2 x3)) rfl ?_
  refine ev_istore_5 (pc := 17) dX9_sunAt_17 (by decide) rfl ?_
  refine ev_aload_n (pc := 19) dX9_sunAt_19 rfl ?_
  refine tv_getr (pc := 20) (d := 3) dX9_sunAt_20 fl_X9_19 (by decide) rfl rfl ?_
  refine ev_iload_n (pc := 23) dX9_sunAt_23 rfl ?_
  refine ev_iald (pc := 24) dX9_sunAt_24 (by decide) rfl hb.1 ?_
  replace hb := hb.2
  refine ev_iconst (pc := 25) (v := 2) dX9_sunAt_25 (by decide) ?_
  refine ev_cut (pj := 34) (Lj := [some (.ref (cw_z g + 1)), some (.int x1), some (.int x2), some (.int x3), some (.int (q11_X9_sunAt_1 n I A J t x1 x2 x3)), some (.int (q17_X9_sunAt_1 n I A J t x1 x2 x3)), none, none]) (stj := [(.int (qs0m26_X9_sunAt_1 n I A J t x1 x2 x3))]) (σj := hp g I A J t) ?_ (fun hJ_26 => ?_)
  rotate_left
  · refine ev_icmp_gt (pc := 26) (tgt := 33) dX9_sunAt_26 (by decide) (fun c_26 => ?_) (fun c_26 => ?_)
    · refine ev_iconst (pc := 33) (v := 0) dX9_sunAt_33 (by decide) ?_
      simp only [qs0m26_X9_sunAt_1, if_pos c_26] at hJ_26
      exact ev_loc hJ_26 cw_le0
    · refine ev_iconst (pc := 29) (v := 1) dX9_sunAt_29 (by decide) ?_
      refine ev_goto (pc := 30) (tgt := 34) dX9_sunAt_30 (by decide) ?_
      simp only [qs0m26_X9_sunAt_1, if_neg c_26] at hJ_26
      exact ev_loc hJ_26 cw_le0
  refine ev_istore_6 (pc := 34) dX9_sunAt_34 (by decide) rfl ?_
  refine ev_aload_n (pc := 36) dX9_sunAt_36 rfl ?_
  refine tv_getr (pc := 37) (d := 3) dX9_sunAt_37 fl_X9_19 (by decide) rfl rfl ?_
  refine ev_iload_n (pc := 40) dX9_sunAt_40 rfl ?_
  refine ev_iald (pc := 41) dX9_sunAt_41 (by decide) rfl hb ?_
  refine ev_iconst (pc := 42) (v := 4) dX9_sunAt_42 (by decide) ?_
  refine ev_cut (pj := 51) (Lj := [some (.ref (cw_z g + 1)), some (.int x1), some (.int x2), some (.int x3), some (.int (q11_X9_sunAt_1 n I A J t x1 x2 x3)), some (.int (q17_X9_sunAt_1 n I A J t x1 x2 x3)), some (.int (qs0m26_X9_sunAt_1 n I A J t x1 x2 x3)), none]) (stj := [(.int (qs0m43_X9_sunAt_1 n I A J t x1 x2 x3))]) (σj := hp g I A J t) ?_ (fun hJ_43 => ?_)
  rotate_left
  · refine ev_icmp_lt (pc := 43) (tgt := 50) dX9_sunAt_43 (by decide) (fun c_43 => ?_) (fun c_43 => ?_)
    · refine ev_iconst (pc := 50) (v := 0) dX9_sunAt_50 (by decide) ?_
      simp only [qs0m43_X9_sunAt_1, if_pos c_43] at hJ_43
      exact ev_loc hJ_43 cw_le0
    · refine ev_iconst (pc := 46) (v := 1) dX9_sunAt_46 (by decide) ?_
      refine ev_goto (pc := 47) (tgt := 51) dX9_sunAt_47 (by decide) ?_
      simp only [qs0m43_X9_sunAt_1, if_neg c_43] at hJ_43
      exact ev_loc hJ_43 cw_le0
  refine ev_istore_7 (pc := 51) dX9_sunAt_51 (by decide) rfl ?_
  refine ev_iload (pc := 53) dX9_sunAt_53 rfl ?_
  refine ev_iconst (pc := 55) (v := 1) dX9_sunAt_55 (by decide) ?_
  refine ev_icmp_ne (pc := 56) (tgt := 64) dX9_sunAt_56 (by decide) (fun c_56 => ?_) (fun c_56 => ?_)
  · try simp only [if_neg c_56] at hQ
    refine ev_iload (pc := 64) dX9_sunAt_64 rfl ?_
    refine ev_iconst (pc := 66) (v := 3) dX9_sunAt_66 (by decide) ?_
    refine ev_icmp_ne (pc := 67) (tgt := 85) dX9_sunAt_67 (by decide) (fun c_67 => ?_) (fun c_67 => ?_)
    · try simp only [if_neg c_67] at hQ
      refine ev_iload (pc := 85) dX9_sunAt_85 rfl ?_
      refine ev_iconst (pc := 87) (v := 1) dX9_sunAt_87 (by decide) ?_
      refine ev_icmp_ne (pc := 88) (tgt := 96) dX9_sunAt_88 (by decide) (fun c_88 => ?_) (fun c_88 => absurd c_88 c_56)
      refine ev_iload (pc := 96) dX9_sunAt_96 rfl ?_
      refine ev_iconst (pc := 98) (v := 3) dX9_sunAt_98 (by decide) ?_
      refine ev_icmp_ne (pc := 99) (tgt := 118) dX9_sunAt_99 (by decide) (fun c_99 => ?_) (fun c_99 => absurd c_99 c_67)
      refine ev_iload (pc := 118) dX9_sunAt_118 rfl ?_
      refine ev_bipush (pc := 120) (v := 7) dX9_sunAt_120 (by decide) ?_
      refine ev_bipush (pc := 122) (v := 16) dX9_sunAt_122 (by decide) ?_
      refine ev_iconst (pc := 124) (v := 2) dX9_sunAt_124 (by decide) ?_
      refine ev_Si (pc := 125) dX9_sunAt_125 lk_X9_29 cd_X9_light ar_X9_light ⟨by decide, rfl, rfl⟩ (cv_X9_light g n I A J t (q11_X9_sunAt_1 n I A J t x1 x2 x3) 7 16 2) rfl rfl (Nat.le_of_ble_eq_true rfl) ⟨by decide, by decide⟩ ?_
      exact ev_iret (pc := 128) dX9_sunAt_128 rfl (by decide) (by decide) (hQ _ _ ⟨rfl, rfl⟩)
    · try simp only [if_pos c_67] at hQ
      refine ev_iload (pc := 70) dX9_sunAt_70 rfl ?_
      refine ev_if_eq (pc := 72) (tgt := 85) dX9_sunAt_72 (by decide) (fun c_72 => ?_) (fun c_72 => ?_)
      · try simp only [if_pos c_72] at hQ
        refine ev_iload (pc := 85) dX9_sunAt_85 rfl ?_
        refine ev_iconst (pc := 87) (v := 1) dX9_sunAt_87 (by decide) ?_
        refine ev_icmp_ne (pc := 88) (tgt := 96) dX9_sunAt_88 (by decide) (fun c_88 => ?_) (fun c_88 => absurd c_88 c_56)
        refine ev_iload (pc := 96) dX9_sunAt_96 rfl ?_
        refine ev_iconst (pc := 98) (v := 3) dX9_sunAt_98 (by decide) ?_
        refine ev_icmp_ne (pc := 99) (tgt := 118) dX9_sunAt_99 (by decide) (fun c_99 => absurd c_67 c_99) (fun c_99 => ?_)
        refine ev_iload (pc := 102) dX9_sunAt_102 rfl ?_
        refine ev_if_eq (pc := 104) (tgt := 118) dX9_sunAt_104 (by decide) (fun c_104 => ?_) (fun c_104 => ?_)
        · try simp only [if_pos c_104] at hQ
          refine ev_iload (pc := 118) dX9_sunAt_118 rfl ?_
          refine ev_bipush (pc := 120) (v := 7) dX9_sunAt_120 (by decide) ?_
          refine ev_bipush (pc := 122) (v := 16) dX9_sunAt_122 (by decide) ?_
          refine ev_iconst (pc := 124) (v := 2) dX9_sunAt_124 (by decide) ?_
          refine ev_Si (pc := 125) dX9_sunAt_125 lk_X9_29 cd_X9_light ar_X9_light ⟨by decide, rfl, rfl⟩ (cv_X9_light g n I A J t (q11_X9_sunAt_1 n I A J t x1 x2 x3) 7 16 2) rfl rfl (Nat.le_of_ble_eq_true rfl) ⟨by decide, by decide⟩ ?_
          exact ev_iret (pc := 128) dX9_sunAt_128 rfl (by decide) (by decide) (hQ _ _ ⟨rfl, rfl⟩)
        · try simp only [if_neg c_104] at hQ
          refine ev_iload (pc := 107) dX9_sunAt_107 rfl ?_
          refine ev_bipush (pc := 109) (v := 8) dX9_sunAt_109 (by decide) ?_
          refine ev_bipush (pc := 111) (v := 15) dX9_sunAt_111 (by decide) ?_
          refine ev_iconst (pc := 113) (v := 1) dX9_sunAt_113 (by decide) ?_
          refine ev_Si (pc := 114) dX9_sunAt_114 lk_X9_29 cd_X9_light ar_X9_light ⟨by decide, rfl, rfl⟩ (cv_X9_light g n I A J t (q11_X9_sunAt_1 n I A J t x1 x2 x3) 8 15 1) rfl rfl (Nat.le_of_ble_eq_true rfl) ⟨by decide, by decide⟩ ?_
          exact ev_iret (pc := 117) dX9_sunAt_117 rfl (by decide) (by decide) (hQ _ _ ⟨rfl, rfl⟩)
      · try simp only [if_neg c_72] at hQ
        refine ev_iload (pc := 75) dX9_sunAt_75 rfl ?_
        refine ev_iconst (pc := 77) (v := 5) dX9_sunAt_77 (by decide) ?_
        refine ev_bipush (pc := 78) (v := 18) dX9_sunAt_78 (by decide) ?_
        refine ev_iconst (pc := 80) (v := 1) dX9_sunAt_80 (by decide) ?_
        refine ev_Si (pc := 81) dX9_sunAt_81 lk_X9_29 cd_X9_light ar_X9_light ⟨by decide, rfl, rfl⟩ (cv_X9_light g n I A J t (q11_X9_sunAt_1 n I A J t x1 x2 x3) 5 18 1) rfl rfl (Nat.le_of_ble_eq_true rfl) ⟨by decide, by decide⟩ ?_
        exact ev_iret (pc := 84) dX9_sunAt_84 rfl (by decide) (by decide) (hQ _ _ ⟨rfl, rfl⟩)
  · try simp only [if_pos c_56] at hQ
    refine ev_iload (pc := 59) dX9_sunAt_59 rfl ?_
    refine ev_if_ne (pc := 61) (tgt := 75) dX9_sunAt_61 (by decide) (fun c_61 => ?_) (fun c_61 => ?_)
    · try simp only [if_neg c_61] at hQ
      refine ev_iload (pc := 75) dX9_sunAt_75 rfl ?_
      refine ev_iconst (pc := 77) (v := 5) dX9_sunAt_77 (by decide) ?_
      refine ev_bipush (pc := 78) (v := 18) dX9_sunAt_78 (by decide) ?_
      refine ev_iconst (pc := 80) (v := 1) dX9_sunAt_80 (by decide) ?_
      refine ev_Si (pc := 81) dX9_sunAt_81 lk_X9_29 cd_X9_light ar_X9_light ⟨by decide, rfl, rfl⟩ (cv_X9_light g n I A J t (q11_X9_sunAt_1 n I A J t x1 x2 x3) 5 18 1) rfl rfl (Nat.le_of_ble_eq_true rfl) ⟨by decide, by decide⟩ ?_
      exact ev_iret (pc := 84) dX9_sunAt_84 rfl (by decide) (by decide) (hQ _ _ ⟨rfl, rfl⟩)
    · try simp only [if_pos c_61] at hQ
      refine ev_iload (pc := 64) dX9_sunAt_64 rfl ?_
      refine ev_iconst (pc := 66) (v := 3) dX9_sunAt_66 (by decide) ?_
      refine ev_icmp_ne (pc := 67) (tgt := 85) dX9_sunAt_67 (by decide) (fun c_67 => ?_) (fun c_67 => ?_)
      · try simp only [if_neg c_67] at hQ
        refine ev_iload (pc := 85) dX9_sunAt_85 rfl ?_
        refine ev_iconst (pc := 87) (v := 1) dX9_sunAt_87 (by decide) ?_
        refine ev_icmp_ne (pc := 88) (tgt := 96) dX9_sunAt_88 (by decide) (fun c_88 => absurd c_56 c_88) (fun c_88 => ?_)
        refine ev_iload (pc := 91) dX9_sunAt_91 rfl ?_
        refine ev_if_ne (pc := 93) (tgt := 107) dX9_sunAt_93 (by decide) (fun c_93 => ?_) (fun c_93 => ?_)
        · try simp only [if_neg c_93] at hQ
          refine ev_iload (pc := 107) dX9_sunAt_107 rfl ?_
          refine ev_bipush (pc := 109) (v := 8) dX9_sunAt_109 (by decide) ?_
          refine ev_bipush (pc := 111) (v := 15) dX9_sunAt_111 (by decide) ?_
          refine ev_iconst (pc := 113) (v := 1) dX9_sunAt_113 (by decide) ?_
          refine ev_Si (pc := 114) dX9_sunAt_114 lk_X9_29 cd_X9_light ar_X9_light ⟨by decide, rfl, rfl⟩ (cv_X9_light g n I A J t (q11_X9_sunAt_1 n I A J t x1 x2 x3) 8 15 1) rfl rfl (Nat.le_of_ble_eq_true rfl) ⟨by decide, by decide⟩ ?_
          exact ev_iret (pc := 117) dX9_sunAt_117 rfl (by decide) (by decide) (hQ _ _ ⟨rfl, rfl⟩)
        · try simp only [if_pos c_93] at hQ
          refine ev_iload (pc := 96) dX9_sunAt_96 rfl ?_
          refine ev_iconst (pc := 98) (v := 3) dX9_sunAt_98 (by decide) ?_
          refine ev_icmp_ne (pc := 99) (tgt := 118) dX9_sunAt_99 (by decide) (fun c_99 => ?_) (fun c_99 => absurd c_99 c_67)
          refine ev_iload (pc := 118) dX9_sunAt_118 rfl ?_
          refine ev_bipush (pc := 120) (v := 7) dX9_sunAt_120 (by decide) ?_
          refine ev_bipush (pc := 122) (v := 16) dX9_sunAt_122 (by decide) ?_
          refine ev_iconst (pc := 124) (v := 2) dX9_sunAt_124 (by decide) ?_
          refine ev_Si (pc := 125) dX9_sunAt_125 lk_X9_29 cd_X9_light ar_X9_light ⟨by decide, rfl, rfl⟩ (cv_X9_light g n I A J t (q11_X9_sunAt_1 n I A J t x1 x2 x3) 7 16 2) rfl rfl (Nat.le_of_ble_eq_true rfl) ⟨by decide, by decide⟩ ?_
          exact ev_iret (pc := 128) dX9_sunAt_128 rfl (by decide) (by decide) (hQ _ _ ⟨rfl, rfl⟩)
      · try simp only [if_pos c_67] at hQ
        refine ev_iload (pc := 70) dX9_sunAt_70 rfl ?_
        refine ev_if_eq (pc := 72) (tgt := 85) dX9_sunAt_72 (by decide) (fun c_72 => ?_) (fun c_72 => ?_)
        · try simp only [if_pos c_72] at hQ
          refine ev_iload (pc := 85) dX9_sunAt_85 rfl ?_
          refine ev_iconst (pc := 87) (v := 1) dX9_sunAt_87 (by decide) ?_
          refine ev_icmp_ne (pc := 88) (tgt := 96) dX9_sunAt_88 (by decide) (fun c_88 => absurd c_56 c_88) (fun c_88 => ?_)
          refine ev_iload (pc := 91) dX9_sunAt_91 rfl ?_
          refine ev_if_ne (pc := 93) (tgt := 107) dX9_sunAt_93 (by decide) (fun c_93 => absurd c_72 c_93) (fun c_93 => ?_)
          refine ev_iload (pc := 96) dX9_sunAt_96 rfl ?_
          refine ev_iconst (pc := 98) (v := 3) dX9_sunAt_98 (by decide) ?_
          refine ev_icmp_ne (pc := 99) (tgt := 118) dX9_sunAt_99 (by decide) (fun c_99 => absurd c_67 c_99) (fun c_99 => ?_)
          refine ev_iload (pc := 102) dX9_sunAt_102 rfl ?_
          refine ev_if_eq (pc := 104) (tgt := 118) dX9_sunAt_104 (by decide) (fun c_104 => ?_) (fun c_104 => absurd c_61 c_104)
          refine ev_iload (pc := 118) dX9_sunAt_118 rfl ?_
          refine ev_bipush (pc := 120) (v := 7) dX9_sunAt_120 (by decide) ?_
          refine ev_bipush (pc := 122) (v := 16) dX9_sunAt_122 (by decide) ?_
          refine ev_iconst (pc := 124) (v := 2) dX9_sunAt_124 (by decide) ?_
          refine ev_Si (pc := 125) dX9_sunAt_125 lk_X9_29 cd_X9_light ar_X9_light ⟨by decide, rfl, rfl⟩ (cv_X9_light g n I A J t (q11_X9_sunAt_1 n I A J t x1 x2 x3) 7 16 2) rfl rfl (Nat.le_of_ble_eq_true rfl) ⟨by decide, by decide⟩ ?_
          exact ev_iret (pc := 128) dX9_sunAt_128 rfl (by decide) (by decide) (hQ _ _ ⟨rfl, rfl⟩)
        · try simp only [if_neg c_72] at hQ
          refine ev_iload (pc := 75) dX9_sunAt_75 rfl ?_
          refine ev_iconst (pc := 77) (v := 5) dX9_sunAt_77 (by decide) ?_
          refine ev_bipush (pc := 78) (v := 18) dX9_sunAt_78 (by decide) ?_
          refine ev_iconst (pc := 80) (v := 1) dX9_sunAt_80 (by decide) ?_
          refine ev_Si (pc := 81) dX9_sunAt_81 lk_X9_29 cd_X9_light ar_X9_light ⟨by decide, rfl, rfl⟩ (cv_X9_light g n I A J t (q11_X9_sunAt_1 n I A J t x1 x2 x3) 5 18 1) rfl rfl (Nat.le_of_ble_eq_true rfl) ⟨by decide, by decide⟩ ?_
          exact ev_iret (pc := 84) dX9_sunAt_84 rfl (by decide) (by decide) (hQ _ _ ⟨rfl, rfl⟩)

def qs0m9_X9_has_5 (n : Nat) (I : Nat → Nat → Int32) (A : Nat → Nat → Int32) (J : Nat → Nat → Int64) (t : Bool × Bool) (x1 : Int32) : Int32 := if (I 5 3) ≤ x1 then 0 else 1
def qs0m1_X9_has_5 (n : Nat) (I : Nat → Nat → Int32) (A : Nat → Nat → Int32) (J : Nat → Nat → Int64) (t : Bool × Bool) (x1 : Int32) : Int32 := if x1 < 0 then 0 else (qs0m9_X9_has_5 n I A J t x1)
def px_X9_has_5 (n : Nat) (I : Nat → Nat → Int32) (A : Nat → Nat → Int32) (J : Nat → Nat → Int64) (t : Bool × Bool) (x1 : Int32) : Int32 := (qs0m1_X9_has_5 n I A J t x1)
set_option maxRecDepth 100000 in
set_option maxHeartbeats 4000000 in
theorem cv_X9_has_5 (g : cw_G) (n : Nat) (I : Nat → Nat → Int32) (A : Nat → Nat → Int32) (J : Nat → Nat → Int64) (t : Bool × Bool) (x1 : Int32) : Cd g mX9_has [(.ref (cw_z g + 5)), (.int x1)] (hp g I A J t) (some (.int (px_X9_has_5 n I A J t x1))) (hp g I A J t) := by
  unfold px_X9_has_5
  refine Cd.of rfl (Nat.le_of_ble_eq_true rfl) (ev_gen (fun Q hQ => ?_))
  refine ev_iload_n (pc := 0) dX9_has_0 rfl ?_
  refine ev_cut (pj := 17) (Lj := [some (.ref (cw_z g + 5)), some (.int x1)]) (stj := [(.int (qs0m1_X9_has_5 n I A J t x1))]) (σj := hp g I A J t) ?_ (fun hJ_1 => ?_)
  rotate_left
  · refine ev_if_lt (pc := 1) (tgt := 16) dX9_has_1 (by decide) (fun c_1 => ?_) (fun c_1 => ?_)
    · refine ev_iconst (pc := 16) (v := 0) dX9_has_16 (by decide) ?_
      simp only [qs0m1_X9_has_5, if_pos c_1] at hJ_1
      exact ev_loc hJ_1 cw_le0
    · refine ev_iload_n (pc := 4) dX9_has_4 rfl ?_
      refine ev_aload_n (pc := 5) dX9_has_5 rfl ?_
      refine tv_geti (pc := 6) dX9_has_6 fl_X9_9 (by decide) rfl rfl ?_
      refine ev_cut (pj := 17) (Lj := [some (.ref (cw_z g + 5)), some (.int x1)]) (stj := [(.int (qs0m9_X9_has_5 n I A J t x1))]) (σj := hp g I A J t) ?_ (fun hJ_9 => ?_)
      rotate_left
      · refine ev_icmp_ge (pc := 9) (tgt := 16) dX9_has_9 (by decide) (fun c_9 => ?_) (fun c_9 => ?_)
        · refine ev_iconst (pc := 16) (v := 0) dX9_has_16 (by decide) ?_
          simp only [qs0m9_X9_has_5, if_pos c_9] at hJ_9
          exact ev_loc hJ_9 cw_le0
        · refine ev_iconst (pc := 12) (v := 1) dX9_has_12 (by decide) ?_
          refine ev_goto (pc := 13) (tgt := 17) dX9_has_13 (by decide) ?_
          simp only [qs0m9_X9_has_5, if_neg c_9] at hJ_9
          exact ev_loc hJ_9 cw_le0
      simp only [qs0m1_X9_has_5, if_neg c_1] at hJ_1
      exact ev_loc hJ_1 cw_le0
  exact ev_zret (pc := 17) dX9_has_17 rfl (cw_nz (cw_ite (Or.inl rfl) (cw_ite (Or.inl rfl) (Or.inr rfl)))) (by decide) (by decide) (hQ _ _ ⟨rfl, rfl⟩)

theorem z1_X9_has_5 (n : Nat) (I : Nat → Nat → Int32) (A : Nat → Nat → Int32) (J : Nat → Nat → Int64) (t : Bool × Bool) (x1 : Int32) : px_X9_has_5 n I A J t x1 = 0 ∨ px_X9_has_5 n I A J t x1 = 1 := (cw_ite (Or.inl rfl) (cw_ite (Or.inl rfl) (Or.inr rfl)))

def qA23_X9_add_5 (n : Nat) (I : Nat → Nat → Int32) (A : Nat → Nat → Int32) (J : Nat → Nat → Int64) (t : Bool × Bool) (x1 : Int32) (x2 : Int32) (x3 : Int32) : Nat → Nat → Int32 := cw_u A 6 ((I 5 3)).toNatClampNeg x1
def qA33_X9_add_5 (n : Nat) (I : Nat → Nat → Int32) (A : Nat → Nat → Int32) (J : Nat → Nat → Int64) (t : Bool × Bool) (x1 : Int32) (x2 : Int32) (x3 : Int32) : Nat → Nat → Int32 := cw_u (qA23_X9_add_5 n I A J t x1 x2 x3) 7 ((I 5 3)).toNatClampNeg x2
def qA43_X9_add_5 (n : Nat) (I : Nat → Nat → Int32) (A : Nat → Nat → Int32) (J : Nat → Nat → Int64) (t : Bool × Bool) (x1 : Int32) (x2 : Int32) (x3 : Int32) : Nat → Nat → Int32 := cw_u (qA33_X9_add_5 n I A J t x1 x2 x3) 8 ((I 5 3)).toNatClampNeg x3
def qI51_X9_add_5 (n : Nat) (I : Nat → Nat → Int32) (A : Nat → Nat → Int32) (J : Nat → Nat → Int64) (t : Bool × Bool) (x1 : Int32) (x2 : Int32) (x3 : Int32) : Nat → Nat → Int32 := cw_u I 5 3 ((I 5 3) + 1)
def pb_X9_add_5 (n : Nat) (I : Nat → Nat → Int32) (A : Nat → Nat → Int32) (J : Nat → Nat → Int64) (t : Bool × Bool) (x1 : Int32) (x2 : Int32) (x3 : Int32) : Prop := ((I 5 3) < (nI 4) → vp_in (I 5 3) 4 ∧ vp_in (I 5 3) 4 ∧ vp_in (I 5 3) 4)
def px_X9_add_5 (n : Nat) (I : Nat → Nat → Int32) (A : Nat → Nat → Int32) (J : Nat → Nat → Int64) (t : Bool × Bool) (x1 : Int32) (x2 : Int32) (x3 : Int32) : Int32 := (if (I 5 3) < (nI 4) then (((qI51_X9_add_5 n I A J t x1 x2 x3) 5 3) - 1) else (-1))
def pI_X9_add_5 (n : Nat) (I : Nat → Nat → Int32) (A : Nat → Nat → Int32) (J : Nat → Nat → Int64) (t : Bool × Bool) (x1 : Int32) (x2 : Int32) (x3 : Int32) : Nat → Nat → Int32 := (if (I 5 3) < (nI 4) then (qI51_X9_add_5 n I A J t x1 x2 x3) else I)
def pA_X9_add_5 (n : Nat) (I : Nat → Nat → Int32) (A : Nat → Nat → Int32) (J : Nat → Nat → Int64) (t : Bool × Bool) (x1 : Int32) (x2 : Int32) (x3 : Int32) : Nat → Nat → Int32 := (if (I 5 3) < (nI 4) then (qA43_X9_add_5 n I A J t x1 x2 x3) else A)
set_option maxRecDepth 100000 in
set_option maxHeartbeats 4000000 in
theorem cv_X9_add_5 (g : cw_G) (n : Nat) (I : Nat → Nat → Int32) (A : Nat → Nat → Int32) (J : Nat → Nat → Int64) (t : Bool × Bool) (x1 : Int32) (x2 : Int32) (x3 : Int32) (hb : pb_X9_add_5 n I A J t x1 x2 x3) : Cd g mX9_add [(.ref (cw_z g + 5)), (.int x1), (.int x2), (.int x3)] (hp g I A J t) (some (.int (px_X9_add_5 n I A J t x1 x2 x3))) (hp g (pI_X9_add_5 n I A J t x1 x2 x3) (pA_X9_add_5 n I A J t x1 x2 x3) J t) := by
  unfold pb_X9_add_5 at hb
  unfold px_X9_add_5 pI_X9_add_5 pA_X9_add_5
  refine Cd.of rfl (Nat.le_of_ble_eq_true rfl) (ev_gen (fun Q hQ => ?_))
  refine ev_aload_n (pc := 0) dX9_add_0 rfl ?_
  refine tv_geti (pc := 1) dX9_add_1 fl_X9_9 (by decide) rfl rfl ?_
  refine ev_aload_n (pc := 4) dX9_add_4 rfl ?_
  refine tv_getr (pc := 5) (d := 6) dX9_add_5 fl_X9_15 (by decide) rfl rfl ?_
  refine ev_alen (pc := 8) dX9_add_8 (show 6 < 120 by decide) rfl (by decide) ?_
  have hT_9 := hb
  refine ev_icmp_lt (pc := 9) (tgt := 14) dX9_add_9 (by decide) (fun c_9 => ?_) (fun c_9 => ?_)
  · have hb := hT_9 c_9
    try simp only [if_pos c_9] at hQ
    refine ev_aload_n (pc := 14) dX9_add_14 rfl ?_
    refine tv_getr (pc := 15) (d := 6) dX9_add_15 fl_X9_15 (by decide) rfl rfl ?_
    refine ev_aload_n (pc := 18) dX9_add_18 rfl ?_
    refine tv_geti (pc := 19) dX9_add_19 fl_X9_9 (by decide) rfl rfl ?_
    refine ev_iload_n (pc := 22) dX9_add_22 rfl ?_
    refine tw_iast (pc := 23) (A2 := (qA23_X9_add_5 n I A J t x1 x2 x3)) dX9_add_23 (by decide) rfl hb.1 rfl ?_
    replace hb := hb.2
    refine ev_aload_n (pc := 24) dX9_add_24 rfl ?_
    refine tv_getr (pc := 25) (d := 7) dX9_add_25 fl_X9_19 (by decide) rfl rfl ?_
    refine ev_aload_n (pc := 28) dX9_add_28 rfl ?_
    refine tv_geti (pc := 29) dX9_add_29 fl_X9_9 (by decide) rfl rfl ?_
    refine ev_iload_n (pc := 32) dX9_add_32 rfl ?_
    refine tw_iast (pc := 33) (A2 := (qA33_X9_add_5 n I A J t x1 x2 x3)) dX9_add_33 (by decide) rfl hb.1 rfl ?_
    replace hb := hb.2
    refine ev_aload_n (pc := 34) dX9_add_34 rfl ?_
    refine tv_getr (pc := 35) (d := 8) dX9_add_35 fl_X9_22 (by decide) rfl rfl ?_
    refine ev_aload_n (pc := 38) dX9_add_38 rfl ?_
    refine tv_geti (pc := 39) dX9_add_39 fl_X9_9 (by decide) rfl rfl ?_
    refine ev_iload_n (pc := 42) dX9_add_42 rfl ?_
    refine tw_iast (pc := 43) (A2 := (qA43_X9_add_5 n I A J t x1 x2 x3)) dX9_add_43 (by decide) rfl hb rfl ?_
    refine ev_aload_n (pc := 44) dX9_add_44 rfl ?_
    refine ev_dup (pc := 45) dX9_add_45 rfl ?_
    refine tv_geti (pc := 46) dX9_add_46 fl_X9_9 (by decide) rfl rfl ?_
    refine ev_iconst (pc := 49) (v := 1) dX9_add_49 (by decide) ?_
    refine ev_iadd (pc := 50) dX9_add_50 ?_
    refine tw_puti (pc := 51) (I2 := (qI51_X9_add_5 n I A J t x1 x2 x3)) dX9_add_51 fp_X9_9 (by decide) rfl rfl rfl ?_
    refine ev_aload_n (pc := 54) dX9_add_54 rfl ?_
    refine tv_geti (pc := 55) dX9_add_55 fl_X9_9 (by decide) rfl rfl ?_
    refine ev_iconst (pc := 58) (v := 1) dX9_add_58 (by decide) ?_
    refine ev_isub (pc := 59) dX9_add_59 ?_
    exact ev_iret (pc := 60) dX9_add_60 rfl (by decide) (by decide) (hQ _ _ ⟨rfl, rfl⟩)
  · try simp only [if_neg c_9] at hQ
    refine ev_iconst (pc := 12) (v := (-1)) dX9_add_12 (by decide) ?_
    exact ev_iret (pc := 13) dX9_add_13 rfl (by decide) (by decide) (hQ _ _ ⟨rfl, rfl⟩)

def pb_X9_listenersOf_5 (n : Nat) (I : Nat → Nat → Int32) (A : Nat → Nat → Int32) (J : Nat → Nat → Int64) (t : Bool × Bool) (x1 : Int32) : Prop := vp_in x1 4
def px_X9_listenersOf_5 (n : Nat) (I : Nat → Nat → Int32) (A : Nat → Nat → Int32) (J : Nat → Nat → Int64) (t : Bool × Bool) (x1 : Int32) : Int32 := (A 8 (x1).toNatClampNeg)
set_option maxRecDepth 100000 in
set_option maxHeartbeats 4000000 in
theorem cv_X9_listenersOf_5 (g : cw_G) (n : Nat) (I : Nat → Nat → Int32) (A : Nat → Nat → Int32) (J : Nat → Nat → Int64) (t : Bool × Bool) (x1 : Int32) (hb : pb_X9_listenersOf_5 n I A J t x1) : Cd g mX9_listenersOf [(.ref (cw_z g + 5)), (.int x1)] (hp g I A J t) (some (.int (px_X9_listenersOf_5 n I A J t x1))) (hp g I A J t) := by
  unfold pb_X9_listenersOf_5 at hb
  unfold px_X9_listenersOf_5
  refine Cd.of rfl (Nat.le_of_ble_eq_true rfl) (ev_gen (fun Q hQ => ?_))
  refine ev_aload_n (pc := 0) dX9_listenersOf_0 rfl ?_
  refine tv_getr (pc := 1) (d := 8) dX9_listenersOf_1 fl_X9_22 (by decide) rfl rfl ?_
  refine ev_iload_n (pc := 4) dX9_listenersOf_4 rfl ?_
  refine ev_iald (pc := 5) dX9_listenersOf_5 (by decide) rfl hb ?_
  exact ev_iret (pc := 6) dX9_listenersOf_6 rfl (by decide) (by decide) (hQ _ _ ⟨rfl, rfl⟩)

def q11_X9_sunAt_5 (n : Nat) (I : Nat → Nat → Int32) (A : Nat → Nat → Int32) (J : Nat → Nat → Int64) (t : Bool × Bool) (x1 : Int32) (x2 : Int32) (x3 : Int32) : Int32 := (cw_rem (x3 + (A 6 (x1).toNatClampNeg)) 24)
def q17_X9_sunAt_5 (n : Nat) (I : Nat → Nat → Int32) (A : Nat → Nat → Int32) (J : Nat → Nat → Int64) (t : Bool × Bool) (x1 : Int32) (x2 : Int32) (x3 : Int32) : Int32 := (px_X11_seasonOf n I A J t x2)
def qs0m26_X9_sunAt_5 (n : Nat) (I : Nat → Nat → Int32) (A : Nat → Nat → Int32) (J : Nat → Nat → Int64) (t : Bool × Bool) (x1 : Int32) (x2 : Int32) (x3 : Int32) : Int32 := if 2 < (A 7 (x1).toNatClampNeg) then 0 else 1
def qs0m43_X9_sunAt_5 (n : Nat) (I : Nat → Nat → Int32) (A : Nat → Nat → Int32) (J : Nat → Nat → Int64) (t : Bool × Bool) (x1 : Int32) (x2 : Int32) (x3 : Int32) : Int32 := if (A 7 (x1).toNatClampNeg) < 4 then 0 else 1
def pb_X9_sunAt_5 (n : Nat) (I : Nat → Nat → Int32) (A : Nat → Nat → Int32) (J : Nat → Nat → Int64) (t : Bool × Bool) (x1 : Int32) (x2 : Int32) (x3 : Int32) : Prop := vp_in x1 4 ∧ vp_in x1 4 ∧ vp_in x1 4
def px_X9_sunAt_5 (n : Nat) (I : Nat → Nat → Int32) (A : Nat → Nat → Int32) (J : Nat → Nat → Int64) (t : Bool × Bool) (x1 : Int32) (x2 : Int32) (x3 : Int32) : Int32 := (if (q17_X9_sunAt_5 n I A J t x1 x2 x3) = 1 then (if (qs0m26_X9_sunAt_5 n I A J t x1 x2 x3) = 0 then (if (q17_X9_sunAt_5 n I A J t x1 x2 x3) = 3 then (if (qs0m43_X9_sunAt_5 n I A J t x1 x2 x3) = 0 then (px_X9_light n I A J t (q11_X9_sunAt_5 n I A J t x1 x2 x3) 7 16 2) else (px_X9_light n I A J t (q11_X9_sunAt_5 n I A J t x1 x2 x3) 5 18 1)) else (if (qs0m43_X9_sunAt_5 n I A J t x1 x2 x3) = 0 then (px_X9_light n I A J t (q11_X9_sunAt_5 n I A J t x1 x2 x3) 7 16 2) else (px_X9_light n I A J t (q11_X9_sunAt_5 n I A J t x1 x2 x3) 8 15 1))) else (px_X9_light n I A J t (q11_X9_sunAt_5 n I A J t x1 x2 x3) 5 18 1)) else (if (q17_X9_sunAt_5 n I A J t x1 x2 x3) = 3 then (if (qs0m43_X9_sunAt_5 n I A J t x1 x2 x3) = 0 then (if (qs0m26_X9_sunAt_5 n I A J t x1 x2 x3) = 0 then (px_X9_light n I A J t (q11_X9_sunAt_5 n I A J t x1 x2 x3) 7 16 2) else (px_X9_light n I A J t (q11_X9_sunAt_5 n I A J t x1 x2 x3) 8 15 1)) else (px_X9_light n I A J t (q11_X9_sunAt_5 n I A J t x1 x2 x3) 5 18 1)) else (px_X9_light n I A J t (q11_X9_sunAt_5 n I A J t x1 x2 x3) 7 16 2)))
set_option maxRecDepth 100000 in
set_option maxHeartbeats 4000000 in
theorem cv_X9_sunAt_5 (g : cw_G) (n : Nat) (I : Nat → Nat → Int32) (A : Nat → Nat → Int32) (J : Nat → Nat → Int64) (t : Bool × Bool) (x1 : Int32) (x2 : Int32) (x3 : Int32) (hb : pb_X9_sunAt_5 n I A J t x1 x2 x3) : Cd g mX9_sunAt [(.ref (cw_z g + 5)), (.int x1), (.int x2), (.int x3)] (hp g I A J t) (some (.int (px_X9_sunAt_5 n I A J t x1 x2 x3))) (hp g I A J t) := by
  unfold pb_X9_sunAt_5 at hb
  unfold px_X9_sunAt_5
  refine Cd.of rfl (Nat.le_of_ble_eq_true rfl) (ev_gen (fun Q hQ => ?_))
  refine ev_iload_n (pc := 0) dX9_sunAt_0 rfl ?_
  refine ev_aload_n (pc := 1) dX9_sunAt_1 rfl ?_
  refine tv_getr (pc := 2) (d := 6) dX9_sunAt_2 fl_X9_15 (by decide) rfl rfl ?_
  refine ev_iload_n (pc := 5) dX9_sunAt_5 rfl ?_
  refine ev_iald (pc := 6) dX9_sunAt_6 (by decide) rfl hb.1 ?_
  replace hb := hb.2
  refine ev_iadd (pc := 7) dX9_sunAt_7 ?_
  refine ev_bipush (pc := 8) (v := 24) dX9_sunAt_8 (by decide) ?_
  refine ev_rem (pc := 10) dX9_sunAt_10 (by decide) ?_
  refine ev_is (y := (q11_X9_sunAt_5 n I A J t x1 x2 x3)) rfl ?_
  refine ev_istore_4 (pc := 11) dX9_sunAt_11 (by decide) rfl ?_
  refine ev_iload_n (pc := 13) dX9_sunAt_13 rfl ?_
  refine ev_SNi (pc := 14) dX9_sunAt_14 ln_X9_25 cd_X11_seasonOf ar_X11_seasonOf ⟨by decide, rfl, rfl⟩ (cv_X11_seasonOf g n I A J t x2) rfl rfl (Nat.le_of_ble_eq_true rfl) ⟨by decide, by decide⟩ ?_
  refine ev_is (y := (q17_X9_sunAt_5 n I A J t x1 x2 x3)) rfl ?_
  refine ev_istore_5 (pc := 17) dX9_sunAt_17 (by decide) rfl ?_
  refine ev_aload_n (pc := 19) dX9_sunAt_19 rfl ?_
  refine tv_getr (pc := 20) (d := 7) dX9_sunAt_20 fl_X9_19 (by decide) rfl rfl ?_
  refine ev_iload_n (pc := 23) dX9_sunAt_23 rfl ?_
  refine ev_iald (pc := 24) dX9_sunAt_24 (by decide) rfl hb.1 ?_
  replace hb := hb.2
  refine ev_iconst (pc := 25) (v := 2) dX9_sunAt_25 (by decide) ?_
  refine ev_cut (pj := 34) (Lj := [some (.ref (cw_z g + 5)), some (.int x1), some (.int x2), some (.int x3), some (.int (q11_X9_sunAt_5 n I A J t x1 x2 x3)), some (.int (q17_X9_sunAt_5 n I A J t x1 x2 x3)), none, none]) (stj := [(.int (qs0m26_X9_sunAt_5 n I A J t x1 x2 x3))]) (σj := hp g I A J t) ?_ (fun hJ_26 => ?_)
  rotate_left
  · refine ev_icmp_gt (pc := 26) (tgt := 33) dX9_sunAt_26 (by decide) (fun c_26 => ?_) (fun c_26 => ?_)
    · refine ev_iconst (pc := 33) (v := 0) dX9_sunAt_33 (by decide) ?_
      simp only [qs0m26_X9_sunAt_5, if_pos c_26] at hJ_26
      exact ev_loc hJ_26 cw_le0
    · refine ev_iconst (pc := 29) (v := 1) dX9_sunAt_29 (by decide) ?_
      refine ev_goto (pc := 30) (tgt := 34) dX9_sunAt_30 (by decide) ?_
      simp only [qs0m26_X9_sunAt_5, if_neg c_26] at hJ_26
      exact ev_loc hJ_26 cw_le0
  refine ev_istore_6 (pc := 34) dX9_sunAt_34 (by decide) rfl ?_
  refine ev_aload_n (pc := 36) dX9_sunAt_36 rfl ?_
  refine tv_getr (pc := 37) (d := 7) dX9_sunAt_37 fl_X9_19 (by decide) rfl rfl ?_
  refine ev_iload_n (pc := 40) dX9_sunAt_40 rfl ?_
  refine ev_iald (pc := 41) dX9_sunAt_41 (by decide) rfl hb ?_
  refine ev_iconst (pc := 42) (v := 4) dX9_sunAt_42 (by decide) ?_
  refine ev_cut (pj := 51) (Lj := [some (.ref (cw_z g + 5)), some (.int x1), some (.int x2), some (.int x3), some (.int (q11_X9_sunAt_5 n I A J t x1 x2 x3)), some (.int (q17_X9_sunAt_5 n I A J t x1 x2 x3)), some (.int (qs0m26_X9_sunAt_5 n I A J t x1 x2 x3)), none]) (stj := [(.int (qs0m43_X9_sunAt_5 n I A J t x1 x2 x3))]) (σj := hp g I A J t) ?_ (fun hJ_43 => ?_)
  rotate_left
  · refine ev_icmp_lt (pc := 43) (tgt := 50) dX9_sunAt_43 (by decide) (fun c_43 => ?_) (fun c_43 => ?_)
    · refine ev_iconst (pc := 50) (v := 0) dX9_sunAt_50 (by decide) ?_
      simp only [qs0m43_X9_sunAt_5, if_pos c_43] at hJ_43
      exact ev_loc hJ_43 cw_le0
    · refine ev_iconst (pc := 46) (v := 1) dX9_sunAt_46 (by decide) ?_
      refine ev_goto (pc := 47) (tgt := 51) dX9_sunAt_47 (by decide) ?_
      simp only [qs0m43_X9_sunAt_5, if_neg c_43] at hJ_43
      exact ev_loc hJ_43 cw_le0
  refine ev_istore_7 (pc := 51) dX9_sunAt_51 (by decide) rfl ?_
  refine ev_iload (pc := 53) dX9_sunAt_53 rfl ?_
  refine ev_iconst (pc := 55) (v := 1) dX9_sunAt_55 (by decide) ?_
  refine ev_icmp_ne (pc := 56) (tgt := 64) dX9_sunAt_56 (by decide) (fun c_56 => ?_) (fun c_56 => ?_)
  · try simp only [if_neg c_56] at hQ
    refine ev_iload (pc := 64) dX9_sunAt_64 rfl ?_
    refine ev_iconst (pc := 66) (v := 3) dX9_sunAt_66 (by decide) ?_
    refine ev_icmp_ne (pc := 67) (tgt := 85) dX9_sunAt_67 (by decide) (fun c_67 => ?_) (fun c_67 => ?_)
    · try simp only [if_neg c_67] at hQ
      refine ev_iload (pc := 85) dX9_sunAt_85 rfl ?_
      refine ev_iconst (pc := 87) (v := 1) dX9_sunAt_87 (by decide) ?_
      refine ev_icmp_ne (pc := 88) (tgt := 96) dX9_sunAt_88 (by decide) (fun c_88 => ?_) (fun c_88 => absurd c_88 c_56)
      refine ev_iload (pc := 96) dX9_sunAt_96 rfl ?_
      refine ev_iconst (pc := 98) (v := 3) dX9_sunAt_98 (by decide) ?_
      refine ev_icmp_ne (pc := 99) (tgt := 118) dX9_sunAt_99 (by decide) (fun c_99 => ?_) (fun c_99 => absurd c_99 c_67)
      refine ev_iload (pc := 118) dX9_sunAt_118 rfl ?_
      refine ev_bipush (pc := 120) (v := 7) dX9_sunAt_120 (by decide) ?_
      refine ev_bipush (pc := 122) (v := 16) dX9_sunAt_122 (by decide) ?_
      refine ev_iconst (pc := 124) (v := 2) dX9_sunAt_124 (by decide) ?_
      refine ev_Si (pc := 125) dX9_sunAt_125 lk_X9_29 cd_X9_light ar_X9_light ⟨by decide, rfl, rfl⟩ (cv_X9_light g n I A J t (q11_X9_sunAt_5 n I A J t x1 x2 x3) 7 16 2) rfl rfl (Nat.le_of_ble_eq_true rfl) ⟨by decide, by decide⟩ ?_
      exact ev_iret (pc := 128) dX9_sunAt_128 rfl (by decide) (by decide) (hQ _ _ ⟨rfl, rfl⟩)
    · try simp only [if_pos c_67] at hQ
      refine ev_iload (pc := 70) dX9_sunAt_70 rfl ?_
      refine ev_if_eq (pc := 72) (tgt := 85) dX9_sunAt_72 (by decide) (fun c_72 => ?_) (fun c_72 => ?_)
      · try simp only [if_pos c_72] at hQ
        refine ev_iload (pc := 85) dX9_sunAt_85 rfl ?_
        refine ev_iconst (pc := 87) (v := 1) dX9_sunAt_87 (by decide) ?_
        refine ev_icmp_ne (pc := 88) (tgt := 96) dX9_sunAt_88 (by decide) (fun c_88 => ?_) (fun c_88 => absurd c_88 c_56)
        refine ev_iload (pc := 96) dX9_sunAt_96 rfl ?_
        refine ev_iconst (pc := 98) (v := 3) dX9_sunAt_98 (by decide) ?_
        refine ev_icmp_ne (pc := 99) (tgt := 118) dX9_sunAt_99 (by decide) (fun c_99 => absurd c_67 c_99) (fun c_99 => ?_)
        refine ev_iload (pc := 102) dX9_sunAt_102 rfl ?_
        refine ev_if_eq (pc := 104) (tgt := 118) dX9_sunAt_104 (by decide) (fun c_104 => ?_) (fun c_104 => ?_)
        · try simp only [if_pos c_104] at hQ
          refine ev_iload (pc := 118) dX9_sunAt_118 rfl ?_
          refine ev_bipush (pc := 120) (v := 7) dX9_sunAt_120 (by decide) ?_
          refine ev_bipush (pc := 122) (v := 16) dX9_sunAt_122 (by decide) ?_
          refine ev_iconst (pc := 124) (v := 2) dX9_sunAt_124 (by decide) ?_
          refine ev_Si (pc := 125) dX9_sunAt_125 lk_X9_29 cd_X9_light ar_X9_light ⟨by decide, rfl, rfl⟩ (cv_X9_light g n I A J t (q11_X9_sunAt_5 n I A J t x1 x2 x3) 7 16 2) rfl rfl (Nat.le_of_ble_eq_true rfl) ⟨by decide, by decide⟩ ?_
          exact ev_iret (pc := 128) dX9_sunAt_128 rfl (by decide) (by decide) (hQ _ _ ⟨rfl, rfl⟩)
        · try simp only [if_neg c_104] at hQ
          refine ev_iload (pc := 107) dX9_sunAt_107 rfl ?_
          refine ev_bipush (pc := 109) (v := 8) dX9_sunAt_109 (by decide) ?_
          refine ev_bipush (pc := 111) (v := 15) dX9_sunAt_111 (by decide) ?_
          refine ev_iconst (pc := 113) (v := 1) dX9_sunAt_113 (by decide) ?_
          refine ev_Si (pc := 114) dX9_sunAt_114 lk_X9_29 cd_X9_light ar_X9_light ⟨by decide, rfl, rfl⟩ (cv_X9_light g n I A J t (q11_X9_sunAt_5 n I A J t x1 x2 x3) 8 15 1) rfl rfl (Nat.le_of_ble_eq_true rfl) ⟨by decide, by decide⟩ ?_
          exact ev_iret (pc := 117) dX9_sunAt_117 rfl (by decide) (by decide) (hQ _ _ ⟨rfl, rfl⟩)
      · try simp only [if_neg c_72] at hQ
        refine ev_iload (pc := 75) dX9_sunAt_75 rfl ?_
        refine ev_iconst (pc := 77) (v := 5) dX9_sunAt_77 (by decide) ?_
        refine ev_bipush (pc := 78) (v := 18) dX9_sunAt_78 (by decide) ?_
        refine ev_iconst (pc := 80) (v := 1) dX9_sunAt_80 (by decide) ?_
        refine ev_Si (pc := 81) dX9_sunAt_81 lk_X9_29 cd_X9_light ar_X9_light ⟨by decide, rfl, rfl⟩ (cv_X9_light g n I A J t (q11_X9_sunAt_5 n I A J t x1 x2 x3) 5 18 1) rfl rfl (Nat.le_of_ble_eq_true rfl) ⟨by decide, by decide⟩ ?_
        exact ev_iret (pc := 84) dX9_sunAt_84 rfl (by decide) (by decide) (hQ _ _ ⟨rfl, rfl⟩)
  · try simp only [if_pos c_56] at hQ
    refine ev_iload (pc := 59) dX9_sunAt_59 rfl ?_
    refine ev_if_ne (pc := 61) (tgt := 75) dX9_sunAt_61 (by decide) (fun c_61 => ?_) (fun c_61 => ?_)
    · try simp only [if_neg c_61] at hQ
      refine ev_iload (pc := 75) dX9_sunAt_75 rfl ?_
      refine ev_iconst (pc := 77) (v := 5) dX9_sunAt_77 (by decide) ?_
      refine ev_bipush (pc := 78) (v := 18) dX9_sunAt_78 (by decide) ?_
      refine ev_iconst (pc := 80) (v := 1) dX9_sunAt_80 (by decide) ?_
      refine ev_Si (pc := 81) dX9_sunAt_81 lk_X9_29 cd_X9_light ar_X9_light ⟨by decide, rfl, rfl⟩ (cv_X9_light g n I A J t (q11_X9_sunAt_5 n I A J t x1 x2 x3) 5 18 1) rfl rfl (Nat.le_of_ble_eq_true rfl) ⟨by decide, by decide⟩ ?_
      exact ev_iret (pc := 84) dX9_sunAt_84 rfl (by decide) (by decide) (hQ _ _ ⟨rfl, rfl⟩)
    · try simp only [if_pos c_61] at hQ
      refine ev_iload (pc := 64) dX9_sunAt_64 rfl ?_
      refine ev_iconst (pc := 66) (v := 3) dX9_sunAt_66 (by decide) ?_
      refine ev_icmp_ne (pc := 67) (tgt := 85) dX9_sunAt_67 (by decide) (fun c_67 => ?_) (fun c_67 => ?_)
      · try simp only [if_neg c_67] at hQ
        refine ev_iload (pc := 85) dX9_sunAt_85 rfl ?_
        refine ev_iconst (pc := 87) (v := 1) dX9_sunAt_87 (by decide) ?_
        refine ev_icmp_ne (pc := 88) (tgt := 96) dX9_sunAt_88 (by decide) (fun c_88 => absurd c_56 c_88) (fun c_88 => ?_)
        refine ev_iload (pc := 91) dX9_sunAt_91 rfl ?_
        refine ev_if_ne (pc := 93) (tgt := 107) dX9_sunAt_93 (by decide) (fun c_93 => ?_) (fun c_93 => ?_)
        · try simp only [if_neg c_93] at hQ
          refine ev_iload (pc := 107) dX9_sunAt_107 rfl ?_
          refine ev_bipush (pc := 109) (v := 8) dX9_sunAt_109 (by decide) ?_
          refine ev_bipush (pc := 111) (v := 15) dX9_sunAt_111 (by decide) ?_
          refine ev_iconst (pc := 113) (v := 1) dX9_sunAt_113 (by decide) ?_
          refine ev_Si (pc := 114) dX9_sunAt_114 lk_X9_29 cd_X9_light ar_X9_light ⟨by decide, rfl, rfl⟩ (cv_X9_light g n I A J t (q11_X9_sunAt_5 n I A J t x1 x2 x3) 8 15 1) rfl rfl (Nat.le_of_ble_eq_true rfl) ⟨by decide, by decide⟩ ?_
          exact ev_iret (pc := 117) dX9_sunAt_117 rfl (by decide) (by decide) (hQ _ _ ⟨rfl, rfl⟩)
        · try simp only [if_pos c_93] at hQ
          refine ev_iload (pc := 96) dX9_sunAt_96 rfl ?_
          refine ev_iconst (pc := 98) (v := 3) dX9_sunAt_98 (by decide) ?_
          refine ev_icmp_ne (pc := 99) (tgt := 118) dX9_sunAt_99 (by decide) (fun c_99 => ?_) (fun c_99 => absurd c_99 c_67)
          refine ev_iload (pc := 118) dX9_sunAt_118 rfl ?_
          refine ev_bipush (pc := 120) (v := 7) dX9_sunAt_120 (by decide) ?_
          refine ev_bipush (pc := 122) (v := 16) dX9_sunAt_122 (by decide) ?_
          refine ev_iconst (pc := 124) (v := 2) dX9_sunAt_124 (by decide) ?_
          refine ev_Si (pc := 125) dX9_sunAt_125 lk_X9_29 cd_X9_light ar_X9_light ⟨by decide, rfl, rfl⟩ (cv_X9_light g n I A J t (q11_X9_sunAt_5 n I A J t x1 x2 x3) 7 16 2) rfl rfl (Nat.le_of_ble_eq_true rfl) ⟨by decide, by decide⟩ ?_
          exact ev_iret (pc := 128) dX9_sunAt_128 rfl (by decide) (by decide) (hQ _ _ ⟨rfl, rfl⟩)
      · try simp only [if_pos c_67] at hQ
        refine ev_iload (pc := 70) dX9_sunAt_70 rfl ?_
        refine ev_if_eq (pc := 72) (tgt := 85) dX9_sunAt_72 (by decide) (fun c_72 => ?_) (fun c_72 => ?_)
        · try simp only [if_pos c_72] at hQ
          refine ev_iload (pc := 85) dX9_sunAt_85 rfl ?_
          refine ev_iconst (pc := 87) (v := 1) dX9_sunAt_87 (by decide) ?_
          refine ev_icmp_ne (pc := 88) (tgt := 96) dX9_sunAt_88 (by decide) (fun c_88 => absurd c_56 c_88) (fun c_88 => ?_)
          refine ev_iload (pc := 91) dX9_sunAt_91 rfl ?_
          refine ev_if_ne (pc := 93) (tgt := 107) dX9_sunAt_93 (by decide) (fun c_93 => absurd c_72 c_93) (fun c_93 => ?_)
          refine ev_iload (pc := 96) dX9_sunAt_96 rfl ?_
          refine ev_iconst (pc := 98) (v := 3) dX9_sunAt_98 (by decide) ?_
          refine ev_icmp_ne (pc := 99) (tgt := 118) dX9_sunAt_99 (by decide) (fun c_99 => absurd c_67 c_99) (fun c_99 => ?_)
          refine ev_iload (pc := 102) dX9_sunAt_102 rfl ?_
          refine ev_if_eq (pc := 104) (tgt := 118) dX9_sunAt_104 (by decide) (fun c_104 => ?_) (fun c_104 => absurd c_61 c_104)
          refine ev_iload (pc := 118) dX9_sunAt_118 rfl ?_
          refine ev_bipush (pc := 120) (v := 7) dX9_sunAt_120 (by decide) ?_
          refine ev_bipush (pc := 122) (v := 16) dX9_sunAt_122 (by decide) ?_
          refine ev_iconst (pc := 124) (v := 2) dX9_sunAt_124 (by decide) ?_
          refine ev_Si (pc := 125) dX9_sunAt_125 lk_X9_29 cd_X9_light ar_X9_light ⟨by decide, rfl, rfl⟩ (cv_X9_light g n I A J t (q11_X9_sunAt_5 n I A J t x1 x2 x3) 7 16 2) rfl rfl (Nat.le_of_ble_eq_true rfl) ⟨by decide, by decide⟩ ?_
          exact ev_iret (pc := 128) dX9_sunAt_128 rfl (by decide) (by decide) (hQ _ _ ⟨rfl, rfl⟩)
        · try simp only [if_neg c_72] at hQ
          refine ev_iload (pc := 75) dX9_sunAt_75 rfl ?_
          refine ev_iconst (pc := 77) (v := 5) dX9_sunAt_77 (by decide) ?_
          refine ev_bipush (pc := 78) (v := 18) dX9_sunAt_78 (by decide) ?_
          refine ev_iconst (pc := 80) (v := 1) dX9_sunAt_80 (by decide) ?_
          refine ev_Si (pc := 81) dX9_sunAt_81 lk_X9_29 cd_X9_light ar_X9_light ⟨by decide, rfl, rfl⟩ (cv_X9_light g n I A J t (q11_X9_sunAt_5 n I A J t x1 x2 x3) 5 18 1) rfl rfl (Nat.le_of_ble_eq_true rfl) ⟨by decide, by decide⟩ ?_
          exact ev_iret (pc := 84) dX9_sunAt_84 rfl (by decide) (by decide) (hQ _ _ ⟨rfl, rfl⟩)

def pb_X9_eastward_1_1 (n : Nat) (I : Nat → Nat → Int32) (A : Nat → Nat → Int32) (J : Nat → Nat → Int64) (t : Bool × Bool) (x1 : Int32) (x2 : Int32) : Prop := vp_in x2 8 ∧ vp_in x1 8
def px_X9_eastward_1_1 (n : Nat) (I : Nat → Nat → Int32) (A : Nat → Nat → Int32) (J : Nat → Nat → Int64) (t : Bool × Bool) (x1 : Int32) (x2 : Int32) : Int32 := (cw_rem (((A 2 (x2).toNatClampNeg) - (A 2 (x1).toNatClampNeg)) + 24) 24)
set_option maxRecDepth 100000 in
set_option maxHeartbeats 4000000 in
theorem cv_X9_eastward_1_1 (g : cw_G) (n : Nat) (I : Nat → Nat → Int32) (A : Nat → Nat → Int32) (J : Nat → Nat → Int64) (t : Bool × Bool) (x1 : Int32) (x2 : Int32) (hb : pb_X9_eastward_1_1 n I A J t x1 x2) : Cd g mX9_eastward [(.ref (cw_z g + 1)), (.int x1), (.ref (cw_z g + 1)), (.int x2)] (hp g I A J t) (some (.int (px_X9_eastward_1_1 n I A J t x1 x2))) (hp g I A J t) := by
  unfold pb_X9_eastward_1_1 at hb
  unfold px_X9_eastward_1_1
  refine Cd.of rfl (Nat.le_of_ble_eq_true rfl) (ev_gen (fun Q hQ => ?_))
  refine ev_aload_n (pc := 0) dX9_eastward_0 rfl ?_
  refine tv_getr (pc := 1) (d := 2) dX9_eastward_1 fl_X9_15 (by decide) rfl rfl ?_
  refine ev_iload_n (pc := 4) dX9_eastward_4 rfl ?_
  refine ev_iald (pc := 5) dX9_eastward_5 (by decide) rfl hb.1 ?_
  replace hb := hb.2
  refine ev_aload_n (pc := 6) dX9_eastward_6 rfl ?_
  refine tv_getr (pc := 7) (d := 2) dX9_eastward_7 fl_X9_15 (by decide) rfl rfl ?_
  refine ev_iload_n (pc := 10) dX9_eastward_10 rfl ?_
  refine ev_iald (pc := 11) dX9_eastward_11 (by decide) rfl hb ?_
  refine ev_isub (pc := 12) dX9_eastward_12 ?_
  refine ev_bipush (pc := 13) (v := 24) dX9_eastward_13 (by decide) ?_
  refine ev_iadd (pc := 15) dX9_eastward_15 ?_
  refine ev_bipush (pc := 16) (v := 24) dX9_eastward_16 (by decide) ?_
  refine ev_rem (pc := 18) dX9_eastward_18 (by decide) ?_
  exact ev_iret (pc := 19) dX9_eastward_19 rfl (by decide) (by decide) (hQ _ _ ⟨rfl, rfl⟩)

def q7_X9_shortest_1_1 (n : Nat) (I : Nat → Nat → Int32) (A : Nat → Nat → Int32) (J : Nat → Nat → Int64) (t : Bool × Bool) (x1 : Int32) (x2 : Int32) : Int32 := (px_X9_eastward_1_1 n I A J t x1 x2)
def q19_X9_shortest_1_1 (n : Nat) (I : Nat → Nat → Int32) (A : Nat → Nat → Int32) (J : Nat → Nat → Int64) (t : Bool × Bool) (x1 : Int32) (x2 : Int32) : Int32 := (px_J9_min_7cf53 n I A J t (q7_X9_shortest_1_1 n I A J t x1 x2) ((24 : Int32) - (q7_X9_shortest_1_1 n I A J t x1 x2)))
def q40_X9_shortest_1_1 (n : Nat) (I : Nat → Nat → Int32) (A : Nat → Nat → Int32) (J : Nat → Nat → Int64) (t : Bool × Bool) (x1 : Int32) (x2 : Int32) : Int32 := ((q19_X9_shortest_1_1 n I A J t x1 x2) + (px_J9_abs_0f7a4 n I A J t ((A 3 (x2).toNatClampNeg) - (A 3 (x1).toNatClampNeg))))
def q47_X9_shortest_1_1 (n : Nat) (I : Nat → Nat → Int32) (A : Nat → Nat → Int32) (J : Nat → Nat → Int64) (t : Bool × Bool) (x1 : Int32) (x2 : Int32) : Int32 := ((13 : Int32) - (q19_X9_shortest_1_1 n I A J t x1 x2))
def q62_X9_shortest_1_1 (n : Nat) (I : Nat → Nat → Int32) (A : Nat → Nat → Int32) (J : Nat → Nat → Int64) (t : Bool × Bool) (x1 : Int32) (x2 : Int32) : Int32 := ((A 3 (x1).toNatClampNeg) + (A 3 (x2).toNatClampNeg))
def q69_X9_shortest_1_1 (n : Nat) (I : Nat → Nat → Int32) (A : Nat → Nat → Int32) (J : Nat → Nat → Int64) (t : Bool × Bool) (x1 : Int32) (x2 : Int32) : Int32 := ((q62_X9_shortest_1_1 n I A J t x1 x2) + (q47_X9_shortest_1_1 n I A J t x1 x2))
def q79_X9_shortest_1_1 (n : Nat) (I : Nat → Nat → Int32) (A : Nat → Nat → Int32) (J : Nat → Nat → Int64) (t : Bool × Bool) (x1 : Int32) (x2 : Int32) : Int32 := (((12 : Int32) - (q62_X9_shortest_1_1 n I A J t x1 x2)) + (q47_X9_shortest_1_1 n I A J t x1 x2))
def pb_X9_shortest_1_1 (n : Nat) (I : Nat → Nat → Int32) (A : Nat → Nat → Int32) (J : Nat → Nat → Int64) (t : Bool × Bool) (x1 : Int32) (x2 : Int32) : Prop := pb_X9_eastward_1_1 n I A J t x1 x2 ∧ vp_in x2 8 ∧ vp_in x1 8 ∧ vp_in x1 8 ∧ vp_in x2 8
def px_X9_shortest_1_1 (n : Nat) (I : Nat → Nat → Int32) (A : Nat → Nat → Int32) (J : Nat → Nat → Int64) (t : Bool × Bool) (x1 : Int32) (x2 : Int32) : Int32 := (px_J9_min_7cf53 n I A J t (((q40_X9_shortest_1_1 n I A J t x1 x2) * 4) + 0) (px_J9_min_7cf53 n I A J t (((q69_X9_shortest_1_1 n I A J t x1 x2) * 4) + 1) (((q79_X9_shortest_1_1 n I A J t x1 x2) * 4) + 2)))
set_option maxRecDepth 100000 in
set_option maxHeartbeats 4000000 in
theorem cv_X9_shortest_1_1 (g : cw_G) (n : Nat) (I : Nat → Nat → Int32) (A : Nat → Nat → Int32) (J : Nat → Nat → Int64) (t : Bool × Bool) (x1 : Int32) (x2 : Int32) (hb : pb_X9_shortest_1_1 n I A J t x1 x2) : Cd g mX9_shortest [(.ref (cw_z g + 1)), (.int x1), (.ref (cw_z g + 1)), (.int x2)] (hp g I A J t) (some (.int (px_X9_shortest_1_1 n I A J t x1 x2))) (hp g I A J t) := by
  unfold pb_X9_shortest_1_1 at hb
  unfold px_X9_shortest_1_1
  refine Cd.of rfl (Nat.le_of_ble_eq_true rfl) (ev_gen (fun Q hQ => ?_))
  refine ev_aload_n (pc := 0) dX9_shortest_0 rfl ?_
  refine ev_iload_n (pc := 1) dX9_shortest_1 rfl ?_
  refine ev_aload_n (pc := 2) dX9_shortest_2 rfl ?_
  refine ev_iload_n (pc := 3) dX9_shortest_3 rfl ?_
  refine ev_Vi (pc := 4) dX9_shortest_4 lk_X9_33 cd_X9_eastward ar_X9_eastward ⟨by decide, rfl, rfl⟩ (cv_X9_eastward_1_1 g n I A J t x1 x2 hb.1) (show 1 < 120 by decide) rfl rfl rfl rfl (Nat.le_of_ble_eq_true rfl) ⟨by decide, by decide⟩ ?_
  replace hb := hb.2
  refine ev_is (y := (q7_X9_shortest_1_1 n I A J t x1 x2)) rfl ?_
  refine ev_istore_4 (pc := 7) dX9_shortest_7 (by decide) rfl ?_
  refine ev_iload (pc := 9) dX9_shortest_9 rfl ?_
  refine ev_bipush (pc := 11) (v := 24) dX9_shortest_11 (by decide) ?_
  refine ev_iload (pc := 13) dX9_shortest_13 rfl ?_
  refine ev_isub (pc := 15) dX9_shortest_15 ?_
  refine ev_Si (pc := 16) dX9_shortest_16 lk_X9_37 cd_J9_min_7cf53 ar_J9_min_7cf53 ⟨by decide, rfl, rfl⟩ (cv_J9_min_7cf53 g n I A J t (q7_X9_shortest_1_1 n I A J t x1 x2) ((24 : Int32) - (q7_X9_shortest_1_1 n I A J t x1 x2))) rfl rfl (Nat.le_of_ble_eq_true rfl) ⟨by decide, by decide⟩ ?_
  refine ev_is (y := (q19_X9_shortest_1_1 n I A J t x1 x2)) rfl ?_
  refine ev_istore_5 (pc := 19) dX9_shortest_19 (by decide) rfl ?_
  refine ev_iload (pc := 21) dX9_shortest_21 rfl ?_
  refine ev_aload_n (pc := 23) dX9_shortest_23 rfl ?_
  refine tv_getr (pc := 24) (d := 3) dX9_shortest_24 fl_X9_19 (by decide) rfl rfl ?_
  refine ev_iload_n (pc := 27) dX9_shortest_27 rfl ?_
  refine ev_iald (pc := 28) dX9_shortest_28 (by decide) rfl hb.1 ?_
  replace hb := hb.2
  refine ev_aload_n (pc := 29) dX9_shortest_29 rfl ?_
  refine tv_getr (pc := 30) (d := 3) dX9_shortest_30 fl_X9_19 (by decide) rfl rfl ?_
  refine ev_iload_n (pc := 33) dX9_shortest_33 rfl ?_
  refine ev_iald (pc := 34) dX9_shortest_34 (by decide) rfl hb.1 ?_
  replace hb := hb.2
  refine ev_isub (pc := 35) dX9_shortest_35 ?_
  refine ev_Si (pc := 36) dX9_shortest_36 lk_X9_43 cd_J9_abs_0f7a4 ar_J9_abs_0f7a4 ⟨by decide, rfl, rfl⟩ (cv_J9_abs_0f7a4 g n I A J t ((A 3 (x2).toNatClampNeg) - (A 3 (x1).toNatClampNeg))) rfl rfl (Nat.le_of_ble_eq_true rfl) ⟨by decide, by decide⟩ ?_
  refine ev_iadd (pc := 39) dX9_shortest_39 ?_
  refine ev_is (y := (q40_X9_shortest_1_1 n I A J t x1 x2)) rfl ?_
  refine ev_istore_6 (pc := 40) dX9_shortest_40 (by decide) rfl ?_
  refine ev_bipush (pc := 42) (v := 13) dX9_shortest_42 (by decide) ?_
  refine ev_iload (pc := 44) dX9_shortest_44 rfl ?_
  refine ev_isub (pc := 46) dX9_shortest_46 ?_
  refine ev_is (y := (q47_X9_shortest_1_1 n I A J t x1 x2)) rfl ?_
  refine ev_istore_7 (pc := 47) dX9_shortest_47 (by decide) rfl ?_
  refine ev_aload_n (pc := 49) dX9_shortest_49 rfl ?_
  refine tv_getr (pc := 50) (d := 3) dX9_shortest_50 fl_X9_19 (by decide) rfl rfl ?_
  refine ev_iload_n (pc := 53) dX9_shortest_53 rfl ?_
  refine ev_iald (pc := 54) dX9_shortest_54 (by decide) rfl hb.1 ?_
  replace hb := hb.2
  refine ev_aload_n (pc := 55) dX9_shortest_55 rfl ?_
  refine tv_getr (pc := 56) (d := 3) dX9_shortest_56 fl_X9_19 (by decide) rfl rfl ?_
  refine ev_iload_n (pc := 59) dX9_shortest_59 rfl ?_
  refine ev_iald (pc := 60) dX9_shortest_60 (by decide) rfl hb ?_
  refine ev_iadd (pc := 61) dX9_shortest_61 ?_
  refine ev_is (y := (q62_X9_shortest_1_1 n I A J t x1 x2)) rfl ?_
  refine ev_istore_8 (pc := 62) dX9_shortest_62 (by decide) rfl ?_
  refine ev_iload (pc := 64) dX9_shortest_64 rfl ?_
  refine ev_iload (pc := 66) dX9_shortest_66 rfl ?_
  refine ev_iadd (pc := 68) dX9_shortest_68 ?_
  refine ev_is (y := (q69_X9_shortest_1_1 n I A J t x1 x2)) rfl ?_
  refine ev_istore_9 (pc := 69) dX9_shortest_69 (by decide) rfl ?_
  refine ev_bipush (pc := 71) (v := 12) dX9_shortest_71 (by decide) ?_
  refine ev_iload (pc := 73) dX9_shortest_73 rfl ?_
  refine ev_isub (pc := 75) dX9_shortest_75 ?_
  refine ev_iload (pc := 76) dX9_shortest_76 rfl ?_
  refine ev_iadd (pc := 78) dX9_shortest_78 ?_
  refine ev_is (y := (q79_X9_shortest_1_1 n I A J t x1 x2)) rfl ?_
  refine ev_istore_10 (pc := 79) dX9_shortest_79 (by decide) rfl ?_
  refine ev_iload (pc := 81) dX9_shortest_81 rfl ?_
  refine ev_iconst (pc := 83) (v := 4) dX9_shortest_83 (by decide) ?_
  refine ev_imul (pc := 84) dX9_shortest_84 ?_
  refine ev_iconst (pc := 85) (v := 0) dX9_shortest_85 (by decide) ?_
  refine ev_iadd (pc := 86) dX9_shortest_86 ?_
  refine ev_iload (pc := 87) dX9_shortest_87 rfl ?_
  refine ev_iconst (pc := 89) (v := 4) dX9_shortest_89 (by decide) ?_
  refine ev_imul (pc := 90) dX9_shortest_90 ?_
  refine ev_iconst (pc := 91) (v := 1) dX9_shortest_91 (by decide) ?_
  refine ev_iadd (pc := 92) dX9_shortest_92 ?_
  refine ev_iload (pc := 93) dX9_shortest_93 rfl ?_
  refine ev_iconst (pc := 95) (v := 4) dX9_shortest_95 (by decide) ?_
  refine ev_imul (pc := 96) dX9_shortest_96 ?_
  refine ev_iconst (pc := 97) (v := 2) dX9_shortest_97 (by decide) ?_
  refine ev_iadd (pc := 98) dX9_shortest_98 ?_
  refine ev_Si (pc := 99) dX9_shortest_99 lk_X9_37 cd_J9_min_7cf53 ar_J9_min_7cf53 ⟨by decide, rfl, rfl⟩ (cv_J9_min_7cf53 g n I A J t (((q69_X9_shortest_1_1 n I A J t x1 x2) * 4) + 1) (((q79_X9_shortest_1_1 n I A J t x1 x2) * 4) + 2)) rfl rfl (Nat.le_of_ble_eq_true rfl) ⟨by decide, by decide⟩ ?_
  refine ev_Si (pc := 102) dX9_shortest_102 lk_X9_37 cd_J9_min_7cf53 ar_J9_min_7cf53 ⟨by decide, rfl, rfl⟩ (cv_J9_min_7cf53 g n I A J t (((q40_X9_shortest_1_1 n I A J t x1 x2) * 4) + 0) (px_J9_min_7cf53 n I A J t (((q69_X9_shortest_1_1 n I A J t x1 x2) * 4) + 1) (((q79_X9_shortest_1_1 n I A J t x1 x2) * 4) + 2))) rfl rfl (Nat.le_of_ble_eq_true rfl) ⟨by decide, by decide⟩ ?_
  exact ev_iret (pc := 105) dX9_shortest_105 rfl (by decide) (by decide) (hQ _ _ ⟨rfl, rfl⟩)

def pb_X9_lengthTo_1_1 (n : Nat) (I : Nat → Nat → Int32) (A : Nat → Nat → Int32) (J : Nat → Nat → Int64) (t : Bool × Bool) (x1 : Int32) (x2 : Int32) : Prop := pb_X9_shortest_1_1 n I A J t x1 x2
def px_X9_lengthTo_1_1 (n : Nat) (I : Nat → Nat → Int32) (A : Nat → Nat → Int32) (J : Nat → Nat → Int64) (t : Bool × Bool) (x1 : Int32) (x2 : Int32) : Int32 := ((px_X9_shortest_1_1 n I A J t x1 x2) / 4)
set_option maxRecDepth 100000 in
set_option maxHeartbeats 4000000 in
theorem cv_X9_lengthTo_1_1 (g : cw_G) (n : Nat) (I : Nat → Nat → Int32) (A : Nat → Nat → Int32) (J : Nat → Nat → Int64) (t : Bool × Bool) (x1 : Int32) (x2 : Int32) (hb : pb_X9_lengthTo_1_1 n I A J t x1 x2) : Cd g mX9_lengthTo [(.ref (cw_z g + 1)), (.int x1), (.ref (cw_z g + 1)), (.int x2)] (hp g I A J t) (some (.int (px_X9_lengthTo_1_1 n I A J t x1 x2))) (hp g I A J t) := by
  unfold pb_X9_lengthTo_1_1 at hb
  unfold px_X9_lengthTo_1_1
  refine Cd.of rfl (Nat.le_of_ble_eq_true rfl) (ev_gen (fun Q hQ => ?_))
  refine ev_aload_n (pc := 0) dX9_lengthTo_0 rfl ?_
  refine ev_iload_n (pc := 1) dX9_lengthTo_1 rfl ?_
  refine ev_aload_n (pc := 2) dX9_lengthTo_2 rfl ?_
  refine ev_iload_n (pc := 3) dX9_lengthTo_3 rfl ?_
  refine ev_Vi (pc := 4) dX9_lengthTo_4 lk_X9_46 cd_X9_shortest ar_X9_shortest ⟨by decide, rfl, rfl⟩ (cv_X9_shortest_1_1 g n I A J t x1 x2 hb) (show 1 < 120 by decide) rfl rfl rfl rfl (Nat.le_of_ble_eq_true rfl) ⟨by decide, by decide⟩ ?_
  refine ev_iconst (pc := 7) (v := 4) dX9_lengthTo_7 (by decide) ?_
  refine ev_idiv (pc := 8) dX9_lengthTo_8 (by decide) ?_
  exact ev_iret (pc := 9) dX9_lengthTo_9 rfl (by decide) (by decide) (hQ _ _ ⟨rfl, rfl⟩)

def pb_X9_kindTo_1_1 (n : Nat) (I : Nat → Nat → Int32) (A : Nat → Nat → Int32) (J : Nat → Nat → Int64) (t : Bool × Bool) (x1 : Int32) (x2 : Int32) : Prop := pb_X9_shortest_1_1 n I A J t x1 x2
def px_X9_kindTo_1_1 (n : Nat) (I : Nat → Nat → Int32) (A : Nat → Nat → Int32) (J : Nat → Nat → Int64) (t : Bool × Bool) (x1 : Int32) (x2 : Int32) : Int32 := (cw_rem (px_X9_shortest_1_1 n I A J t x1 x2) 4)
set_option maxRecDepth 100000 in
set_option maxHeartbeats 4000000 in
theorem cv_X9_kindTo_1_1 (g : cw_G) (n : Nat) (I : Nat → Nat → Int32) (A : Nat → Nat → Int32) (J : Nat → Nat → Int64) (t : Bool × Bool) (x1 : Int32) (x2 : Int32) (hb : pb_X9_kindTo_1_1 n I A J t x1 x2) : Cd g mX9_kindTo [(.ref (cw_z g + 1)), (.int x1), (.ref (cw_z g + 1)), (.int x2)] (hp g I A J t) (some (.int (px_X9_kindTo_1_1 n I A J t x1 x2))) (hp g I A J t) := by
  unfold pb_X9_kindTo_1_1 at hb
  unfold px_X9_kindTo_1_1
  refine Cd.of rfl (Nat.le_of_ble_eq_true rfl) (ev_gen (fun Q hQ => ?_))
  refine ev_aload_n (pc := 0) dX9_kindTo_0 rfl ?_
  refine ev_iload_n (pc := 1) dX9_kindTo_1 rfl ?_
  refine ev_aload_n (pc := 2) dX9_kindTo_2 rfl ?_
  refine ev_iload_n (pc := 3) dX9_kindTo_3 rfl ?_
  refine ev_Vi (pc := 4) dX9_kindTo_4 lk_X9_46 cd_X9_shortest ar_X9_shortest ⟨by decide, rfl, rfl⟩ (cv_X9_shortest_1_1 g n I A J t x1 x2 hb) (show 1 < 120 by decide) rfl rfl rfl rfl (Nat.le_of_ble_eq_true rfl) ⟨by decide, by decide⟩ ?_
  refine ev_iconst (pc := 7) (v := 4) dX9_kindTo_7 (by decide) ?_
  refine ev_rem (pc := 8) dX9_kindTo_8 (by decide) ?_
  exact ev_iret (pc := 9) dX9_kindTo_9 rfl (by decide) (by decide) (hQ _ _ ⟨rfl, rfl⟩)

def pb_X9_farTo_1_1 (n : Nat) (I : Nat → Nat → Int32) (A : Nat → Nat → Int32) (J : Nat → Nat → Int64) (t : Bool × Bool) (x1 : Int32) (x2 : Int32) : Prop := pb_X9_shortest_1_1 n I A J t x1 x2
def px_X9_farTo_1_1 (n : Nat) (I : Nat → Nat → Int32) (A : Nat → Nat → Int32) (J : Nat → Nat → Int64) (t : Bool × Bool) (x1 : Int32) (x2 : Int32) : Int32 := (px_J9_min_7cf53 n I A J t (((px_X9_shortest_1_1 n I A J t x1 x2) / 4) / 5) 4)
set_option maxRecDepth 100000 in
set_option maxHeartbeats 4000000 in
theorem cv_X9_farTo_1_1 (g : cw_G) (n : Nat) (I : Nat → Nat → Int32) (A : Nat → Nat → Int32) (J : Nat → Nat → Int64) (t : Bool × Bool) (x1 : Int32) (x2 : Int32) (hb : pb_X9_farTo_1_1 n I A J t x1 x2) : Cd g mX9_farTo [(.ref (cw_z g + 1)), (.int x1), (.ref (cw_z g + 1)), (.int x2)] (hp g I A J t) (some (.int (px_X9_farTo_1_1 n I A J t x1 x2))) (hp g I A J t) := by
  unfold pb_X9_farTo_1_1 at hb
  unfold px_X9_farTo_1_1
  refine Cd.of rfl (Nat.le_of_ble_eq_true rfl) (ev_gen (fun Q hQ => ?_))
  refine ev_aload_n (pc := 0) dX9_farTo_0 rfl ?_
  refine ev_iload_n (pc := 1) dX9_farTo_1 rfl ?_
  refine ev_aload_n (pc := 2) dX9_farTo_2 rfl ?_
  refine ev_iload_n (pc := 3) dX9_farTo_3 rfl ?_
  refine ev_Vi (pc := 4) dX9_farTo_4 lk_X9_46 cd_X9_shortest ar_X9_shortest ⟨by decide, rfl, rfl⟩ (cv_X9_shortest_1_1 g n I A J t x1 x2 hb) (show 1 < 120 by decide) rfl rfl rfl rfl (Nat.le_of_ble_eq_true rfl) ⟨by decide, by decide⟩ ?_
  refine ev_iconst (pc := 7) (v := 4) dX9_farTo_7 (by decide) ?_
  refine ev_idiv (pc := 8) dX9_farTo_8 (by decide) ?_
  refine ev_iconst (pc := 9) (v := 5) dX9_farTo_9 (by decide) ?_
  refine ev_idiv (pc := 10) dX9_farTo_10 (by decide) ?_
  refine ev_iconst (pc := 11) (v := 4) dX9_farTo_11 (by decide) ?_
  refine ev_Si (pc := 12) dX9_farTo_12 lk_X9_37 cd_J9_min_7cf53 ar_J9_min_7cf53 ⟨by decide, rfl, rfl⟩ (cv_J9_min_7cf53 g n I A J t (((px_X9_shortest_1_1 n I A J t x1 x2) / 4) / 5) 4) rfl rfl (Nat.le_of_ble_eq_true rfl) ⟨by decide, by decide⟩ ?_
  exact ev_iret (pc := 15) dX9_farTo_15 rfl (by decide) (by decide) (hQ _ _ ⟨rfl, rfl⟩)

def pb_X9_eastward_5_1 (n : Nat) (I : Nat → Nat → Int32) (A : Nat → Nat → Int32) (J : Nat → Nat → Int64) (t : Bool × Bool) (x1 : Int32) (x2 : Int32) : Prop := vp_in x2 8 ∧ vp_in x1 4
def px_X9_eastward_5_1 (n : Nat) (I : Nat → Nat → Int32) (A : Nat → Nat → Int32) (J : Nat → Nat → Int64) (t : Bool × Bool) (x1 : Int32) (x2 : Int32) : Int32 := (cw_rem (((A 2 (x2).toNatClampNeg) - (A 6 (x1).toNatClampNeg)) + 24) 24)
set_option maxRecDepth 100000 in
set_option maxHeartbeats 4000000 in
theorem cv_X9_eastward_5_1 (g : cw_G) (n : Nat) (I : Nat → Nat → Int32) (A : Nat → Nat → Int32) (J : Nat → Nat → Int64) (t : Bool × Bool) (x1 : Int32) (x2 : Int32) (hb : pb_X9_eastward_5_1 n I A J t x1 x2) : Cd g mX9_eastward [(.ref (cw_z g + 5)), (.int x1), (.ref (cw_z g + 1)), (.int x2)] (hp g I A J t) (some (.int (px_X9_eastward_5_1 n I A J t x1 x2))) (hp g I A J t) := by
  unfold pb_X9_eastward_5_1 at hb
  unfold px_X9_eastward_5_1
  refine Cd.of rfl (Nat.le_of_ble_eq_true rfl) (ev_gen (fun Q hQ => ?_))
  refine ev_aload_n (pc := 0) dX9_eastward_0 rfl ?_
  refine tv_getr (pc := 1) (d := 2) dX9_eastward_1 fl_X9_15 (by decide) rfl rfl ?_
  refine ev_iload_n (pc := 4) dX9_eastward_4 rfl ?_
  refine ev_iald (pc := 5) dX9_eastward_5 (by decide) rfl hb.1 ?_
  replace hb := hb.2
  refine ev_aload_n (pc := 6) dX9_eastward_6 rfl ?_
  refine tv_getr (pc := 7) (d := 6) dX9_eastward_7 fl_X9_15 (by decide) rfl rfl ?_
  refine ev_iload_n (pc := 10) dX9_eastward_10 rfl ?_
  refine ev_iald (pc := 11) dX9_eastward_11 (by decide) rfl hb ?_
  refine ev_isub (pc := 12) dX9_eastward_12 ?_
  refine ev_bipush (pc := 13) (v := 24) dX9_eastward_13 (by decide) ?_
  refine ev_iadd (pc := 15) dX9_eastward_15 ?_
  refine ev_bipush (pc := 16) (v := 24) dX9_eastward_16 (by decide) ?_
  refine ev_rem (pc := 18) dX9_eastward_18 (by decide) ?_
  exact ev_iret (pc := 19) dX9_eastward_19 rfl (by decide) (by decide) (hQ _ _ ⟨rfl, rfl⟩)

def q7_X9_shortest_5_1 (n : Nat) (I : Nat → Nat → Int32) (A : Nat → Nat → Int32) (J : Nat → Nat → Int64) (t : Bool × Bool) (x1 : Int32) (x2 : Int32) : Int32 := (px_X9_eastward_5_1 n I A J t x1 x2)
def q19_X9_shortest_5_1 (n : Nat) (I : Nat → Nat → Int32) (A : Nat → Nat → Int32) (J : Nat → Nat → Int64) (t : Bool × Bool) (x1 : Int32) (x2 : Int32) : Int32 := (px_J9_min_7cf53 n I A J t (q7_X9_shortest_5_1 n I A J t x1 x2) ((24 : Int32) - (q7_X9_shortest_5_1 n I A J t x1 x2)))
def q40_X9_shortest_5_1 (n : Nat) (I : Nat → Nat → Int32) (A : Nat → Nat → Int32) (J : Nat → Nat → Int64) (t : Bool × Bool) (x1 : Int32) (x2 : Int32) : Int32 := ((q19_X9_shortest_5_1 n I A J t x1 x2) + (px_J9_abs_0f7a4 n I A J t ((A 3 (x2).toNatClampNeg) - (A 7 (x1).toNatClampNeg))))
def q47_X9_shortest_5_1 (n : Nat) (I : Nat → Nat → Int32) (A : Nat → Nat → Int32) (J : Nat → Nat → Int64) (t : Bool × Bool) (x1 : Int32) (x2 : Int32) : Int32 := ((13 : Int32) - (q19_X9_shortest_5_1 n I A J t x1 x2))
def q62_X9_shortest_5_1 (n : Nat) (I : Nat → Nat → Int32) (A : Nat → Nat → Int32) (J : Nat → Nat → Int64) (t : Bool × Bool) (x1 : Int32) (x2 : Int32) : Int32 := ((A 7 (x1).toNatClampNeg) + (A 3 (x2).toNatClampNeg))
def q69_X9_shortest_5_1 (n : Nat) (I : Nat → Nat → Int32) (A : Nat → Nat → Int32) (J : Nat → Nat → Int64) (t : Bool × Bool) (x1 : Int32) (x2 : Int32) : Int32 := ((q62_X9_shortest_5_1 n I A J t x1 x2) + (q47_X9_shortest_5_1 n I A J t x1 x2))
def q79_X9_shortest_5_1 (n : Nat) (I : Nat → Nat → Int32) (A : Nat → Nat → Int32) (J : Nat → Nat → Int64) (t : Bool × Bool) (x1 : Int32) (x2 : Int32) : Int32 := (((12 : Int32) - (q62_X9_shortest_5_1 n I A J t x1 x2)) + (q47_X9_shortest_5_1 n I A J t x1 x2))
def pb_X9_shortest_5_1 (n : Nat) (I : Nat → Nat → Int32) (A : Nat → Nat → Int32) (J : Nat → Nat → Int64) (t : Bool × Bool) (x1 : Int32) (x2 : Int32) : Prop := pb_X9_eastward_5_1 n I A J t x1 x2 ∧ vp_in x2 8 ∧ vp_in x1 4 ∧ vp_in x1 4 ∧ vp_in x2 8
def px_X9_shortest_5_1 (n : Nat) (I : Nat → Nat → Int32) (A : Nat → Nat → Int32) (J : Nat → Nat → Int64) (t : Bool × Bool) (x1 : Int32) (x2 : Int32) : Int32 := (px_J9_min_7cf53 n I A J t (((q40_X9_shortest_5_1 n I A J t x1 x2) * 4) + 0) (px_J9_min_7cf53 n I A J t (((q69_X9_shortest_5_1 n I A J t x1 x2) * 4) + 1) (((q79_X9_shortest_5_1 n I A J t x1 x2) * 4) + 2)))
set_option maxRecDepth 100000 in
set_option maxHeartbeats 4000000 in
theorem cv_X9_shortest_5_1 (g : cw_G) (n : Nat) (I : Nat → Nat → Int32) (A : Nat → Nat → Int32) (J : Nat → Nat → Int64) (t : Bool × Bool) (x1 : Int32) (x2 : Int32) (hb : pb_X9_shortest_5_1 n I A J t x1 x2) : Cd g mX9_shortest [(.ref (cw_z g + 5)), (.int x1), (.ref (cw_z g + 1)), (.int x2)] (hp g I A J t) (some (.int (px_X9_shortest_5_1 n I A J t x1 x2))) (hp g I A J t) := by
  unfold pb_X9_shortest_5_1 at hb
  unfold px_X9_shortest_5_1
  refine Cd.of rfl (Nat.le_of_ble_eq_true rfl) (ev_gen (fun Q hQ => ?_))
  refine ev_aload_n (pc := 0) dX9_shortest_0 rfl ?_
  refine ev_iload_n (pc := 1) dX9_shortest_1 rfl ?_
  refine ev_aload_n (pc := 2) dX9_shortest_2 rfl ?_
  refine ev_iload_n (pc := 3) dX9_shortest_3 rfl ?_
  refine ev_Vi (pc := 4) dX9_shortest_4 lk_X9_33 cd_X9_eastward ar_X9_eastward ⟨by decide, rfl, rfl⟩ (cv_X9_eastward_5_1 g n I A J t x1 x2 hb.1) (show 5 < 120 by decide) rfl rfl rfl rfl (Nat.le_of_ble_eq_true rfl) ⟨by decide, by decide⟩ ?_
  replace hb := hb.2
  refine ev_is (y := (q7_X9_shortest_5_1 n I A J t x1 x2)) rfl ?_
  refine ev_istore_4 (pc := 7) dX9_shortest_7 (by decide) rfl ?_
  refine ev_iload (pc := 9) dX9_shortest_9 rfl ?_
  refine ev_bipush (pc := 11) (v := 24) dX9_shortest_11 (by decide) ?_
  refine ev_iload (pc := 13) dX9_shortest_13 rfl ?_
  refine ev_isub (pc := 15) dX9_shortest_15 ?_
  refine ev_Si (pc := 16) dX9_shortest_16 lk_X9_37 cd_J9_min_7cf53 ar_J9_min_7cf53 ⟨by decide, rfl, rfl⟩ (cv_J9_min_7cf53 g n I A J t (q7_X9_shortest_5_1 n I A J t x1 x2) ((24 : Int32) - (q7_X9_shortest_5_1 n I A J t x1 x2))) rfl rfl (Nat.le_of_ble_eq_true rfl) ⟨by decide, by decide⟩ ?_
  refine ev_is (y := (q19_X9_shortest_5_1 n I A J t x1 x2)) rfl ?_
  refine ev_istore_5 (pc := 19) dX9_shortest_19 (by decide) rfl ?_
  refine ev_iload (pc := 21) dX9_shortest_21 rfl ?_
  refine ev_aload_n (pc := 23) dX9_shortest_23 rfl ?_
  refine tv_getr (pc := 24) (d := 3) dX9_shortest_24 fl_X9_19 (by decide) rfl rfl ?_
  refine ev_iload_n (pc := 27) dX9_shortest_27 rfl ?_
  refine ev_iald (pc := 28) dX9_shortest_28 (by decide) rfl hb.1 ?_
  replace hb := hb.2
  refine ev_aload_n (pc := 29) dX9_shortest_29 rfl ?_
  refine tv_getr (pc := 30) (d := 7) dX9_shortest_30 fl_X9_19 (by decide) rfl rfl ?_
  refine ev_iload_n (pc := 33) dX9_shortest_33 rfl ?_
  refine ev_iald (pc := 34) dX9_shortest_34 (by decide) rfl hb.1 ?_
  replace hb := hb.2
  refine ev_isub (pc := 35) dX9_shortest_35 ?_
  refine ev_Si (pc := 36) dX9_shortest_36 lk_X9_43 cd_J9_abs_0f7a4 ar_J9_abs_0f7a4 ⟨by decide, rfl, rfl⟩ (cv_J9_abs_0f7a4 g n I A J t ((A 3 (x2).toNatClampNeg) - (A 7 (x1).toNatClampNeg))) rfl rfl (Nat.le_of_ble_eq_true rfl) ⟨by decide, by decide⟩ ?_
  refine ev_iadd (pc := 39) dX9_shortest_39 ?_
  refine ev_is (y := (q40_X9_shortest_5_1 n I A J t x1 x2)) rfl ?_
  refine ev_istore_6 (pc := 40) dX9_shortest_40 (by decide) rfl ?_
  refine ev_bipush (pc := 42) (v := 13) dX9_shortest_42 (by decide) ?_
  refine ev_iload (pc := 44) dX9_shortest_44 rfl ?_
  refine ev_isub (pc := 46) dX9_shortest_46 ?_
  refine ev_is (y := (q47_X9_shortest_5_1 n I A J t x1 x2)) rfl ?_
  refine ev_istore_7 (pc := 47) dX9_shortest_47 (by decide) rfl ?_
  refine ev_aload_n (pc := 49) dX9_shortest_49 rfl ?_
  refine tv_getr (pc := 50) (d := 7) dX9_shortest_50 fl_X9_19 (by decide) rfl rfl ?_
  refine ev_iload_n (pc := 53) dX9_shortest_53 rfl ?_
  refine ev_iald (pc := 54) dX9_shortest_54 (by decide) rfl hb.1 ?_
  replace hb := hb.2
  refine ev_aload_n (pc := 55) dX9_shortest_55 rfl ?_
  refine tv_getr (pc := 56) (d := 3) dX9_shortest_56 fl_X9_19 (by decide) rfl rfl ?_
  refine ev_iload_n (pc := 59) dX9_shortest_59 rfl ?_
  refine ev_iald (pc := 60) dX9_shortest_60 (by decide) rfl hb ?_
  refine ev_iadd (pc := 61) dX9_shortest_61 ?_
  refine ev_is (y := (q62_X9_shortest_5_1 n I A J t x1 x2)) rfl ?_
  refine ev_istore_8 (pc := 62) dX9_shortest_62 (by decide) rfl ?_
  refine ev_iload (pc := 64) dX9_shortest_64 rfl ?_
  refine ev_iload (pc := 66) dX9_shortest_66 rfl ?_
  refine ev_iadd (pc := 68) dX9_shortest_68 ?_
  refine ev_is (y := (q69_X9_shortest_5_1 n I A J t x1 x2)) rfl ?_
  refine ev_istore_9 (pc := 69) dX9_shortest_69 (by decide) rfl ?_
  refine ev_bipush (pc := 71) (v := 12) dX9_shortest_71 (by decide) ?_
  refine ev_iload (pc := 73) dX9_shortest_73 rfl ?_
  refine ev_isub (pc := 75) dX9_shortest_75 ?_
  refine ev_iload (pc := 76) dX9_shortest_76 rfl ?_
  refine ev_iadd (pc := 78) dX9_shortest_78 ?_
  refine ev_is (y := (q79_X9_shortest_5_1 n I A J t x1 x2)) rfl ?_
  refine ev_istore_10 (pc := 79) dX9_shortest_79 (by decide) rfl ?_
  refine ev_iload (pc := 81) dX9_shortest_81 rfl ?_
  refine ev_iconst (pc := 83) (v := 4) dX9_shortest_83 (by decide) ?_
  refine ev_imul (pc := 84) dX9_shortest_84 ?_
  refine ev_iconst (pc := 85) (v := 0) dX9_shortest_85 (by decide) ?_
  refine ev_iadd (pc := 86) dX9_shortest_86 ?_
  refine ev_iload (pc := 87) dX9_shortest_87 rfl ?_
  refine ev_iconst (pc := 89) (v := 4) dX9_shortest_89 (by decide) ?_
  refine ev_imul (pc := 90) dX9_shortest_90 ?_
  refine ev_iconst (pc := 91) (v := 1) dX9_shortest_91 (by decide) ?_
  refine ev_iadd (pc := 92) dX9_shortest_92 ?_
  refine ev_iload (pc := 93) dX9_shortest_93 rfl ?_
  refine ev_iconst (pc := 95) (v := 4) dX9_shortest_95 (by decide) ?_
  refine ev_imul (pc := 96) dX9_shortest_96 ?_
  refine ev_iconst (pc := 97) (v := 2) dX9_shortest_97 (by decide) ?_
  refine ev_iadd (pc := 98) dX9_shortest_98 ?_
  refine ev_Si (pc := 99) dX9_shortest_99 lk_X9_37 cd_J9_min_7cf53 ar_J9_min_7cf53 ⟨by decide, rfl, rfl⟩ (cv_J9_min_7cf53 g n I A J t (((q69_X9_shortest_5_1 n I A J t x1 x2) * 4) + 1) (((q79_X9_shortest_5_1 n I A J t x1 x2) * 4) + 2)) rfl rfl (Nat.le_of_ble_eq_true rfl) ⟨by decide, by decide⟩ ?_
  refine ev_Si (pc := 102) dX9_shortest_102 lk_X9_37 cd_J9_min_7cf53 ar_J9_min_7cf53 ⟨by decide, rfl, rfl⟩ (cv_J9_min_7cf53 g n I A J t (((q40_X9_shortest_5_1 n I A J t x1 x2) * 4) + 0) (px_J9_min_7cf53 n I A J t (((q69_X9_shortest_5_1 n I A J t x1 x2) * 4) + 1) (((q79_X9_shortest_5_1 n I A J t x1 x2) * 4) + 2))) rfl rfl (Nat.le_of_ble_eq_true rfl) ⟨by decide, by decide⟩ ?_
  exact ev_iret (pc := 105) dX9_shortest_105 rfl (by decide) (by decide) (hQ _ _ ⟨rfl, rfl⟩)

def pb_X9_lengthTo_5_1 (n : Nat) (I : Nat → Nat → Int32) (A : Nat → Nat → Int32) (J : Nat → Nat → Int64) (t : Bool × Bool) (x1 : Int32) (x2 : Int32) : Prop := pb_X9_shortest_5_1 n I A J t x1 x2
def px_X9_lengthTo_5_1 (n : Nat) (I : Nat → Nat → Int32) (A : Nat → Nat → Int32) (J : Nat → Nat → Int64) (t : Bool × Bool) (x1 : Int32) (x2 : Int32) : Int32 := ((px_X9_shortest_5_1 n I A J t x1 x2) / 4)
set_option maxRecDepth 100000 in
set_option maxHeartbeats 4000000 in
theorem cv_X9_lengthTo_5_1 (g : cw_G) (n : Nat) (I : Nat → Nat → Int32) (A : Nat → Nat → Int32) (J : Nat → Nat → Int64) (t : Bool × Bool) (x1 : Int32) (x2 : Int32) (hb : pb_X9_lengthTo_5_1 n I A J t x1 x2) : Cd g mX9_lengthTo [(.ref (cw_z g + 5)), (.int x1), (.ref (cw_z g + 1)), (.int x2)] (hp g I A J t) (some (.int (px_X9_lengthTo_5_1 n I A J t x1 x2))) (hp g I A J t) := by
  unfold pb_X9_lengthTo_5_1 at hb
  unfold px_X9_lengthTo_5_1
  refine Cd.of rfl (Nat.le_of_ble_eq_true rfl) (ev_gen (fun Q hQ => ?_))
  refine ev_aload_n (pc := 0) dX9_lengthTo_0 rfl ?_
  refine ev_iload_n (pc := 1) dX9_lengthTo_1 rfl ?_
  refine ev_aload_n (pc := 2) dX9_lengthTo_2 rfl ?_
  refine ev_iload_n (pc := 3) dX9_lengthTo_3 rfl ?_
  refine ev_Vi (pc := 4) dX9_lengthTo_4 lk_X9_46 cd_X9_shortest ar_X9_shortest ⟨by decide, rfl, rfl⟩ (cv_X9_shortest_5_1 g n I A J t x1 x2 hb) (show 5 < 120 by decide) rfl rfl rfl rfl (Nat.le_of_ble_eq_true rfl) ⟨by decide, by decide⟩ ?_
  refine ev_iconst (pc := 7) (v := 4) dX9_lengthTo_7 (by decide) ?_
  refine ev_idiv (pc := 8) dX9_lengthTo_8 (by decide) ?_
  exact ev_iret (pc := 9) dX9_lengthTo_9 rfl (by decide) (by decide) (hQ _ _ ⟨rfl, rfl⟩)

def pb_X9_kindTo_5_1 (n : Nat) (I : Nat → Nat → Int32) (A : Nat → Nat → Int32) (J : Nat → Nat → Int64) (t : Bool × Bool) (x1 : Int32) (x2 : Int32) : Prop := pb_X9_shortest_5_1 n I A J t x1 x2
def px_X9_kindTo_5_1 (n : Nat) (I : Nat → Nat → Int32) (A : Nat → Nat → Int32) (J : Nat → Nat → Int64) (t : Bool × Bool) (x1 : Int32) (x2 : Int32) : Int32 := (cw_rem (px_X9_shortest_5_1 n I A J t x1 x2) 4)
set_option maxRecDepth 100000 in
set_option maxHeartbeats 4000000 in
theorem cv_X9_kindTo_5_1 (g : cw_G) (n : Nat) (I : Nat → Nat → Int32) (A : Nat → Nat → Int32) (J : Nat → Nat → Int64) (t : Bool × Bool) (x1 : Int32) (x2 : Int32) (hb : pb_X9_kindTo_5_1 n I A J t x1 x2) : Cd g mX9_kindTo [(.ref (cw_z g + 5)), (.int x1), (.ref (cw_z g + 1)), (.int x2)] (hp g I A J t) (some (.int (px_X9_kindTo_5_1 n I A J t x1 x2))) (hp g I A J t) := by
  unfold pb_X9_kindTo_5_1 at hb
  unfold px_X9_kindTo_5_1
  refine Cd.of rfl (Nat.le_of_ble_eq_true rfl) (ev_gen (fun Q hQ => ?_))
  refine ev_aload_n (pc := 0) dX9_kindTo_0 rfl ?_
  refine ev_iload_n (pc := 1) dX9_kindTo_1 rfl ?_
  refine ev_aload_n (pc := 2) dX9_kindTo_2 rfl ?_
  refine ev_iload_n (pc := 3) dX9_kindTo_3 rfl ?_
  refine ev_Vi (pc := 4) dX9_kindTo_4 lk_X9_46 cd_X9_shortest ar_X9_shortest ⟨by decide, rfl, rfl⟩ (cv_X9_shortest_5_1 g n I A J t x1 x2 hb) (show 5 < 120 by decide) rfl rfl rfl rfl (Nat.le_of_ble_eq_true rfl) ⟨by decide, by decide⟩ ?_
  refine ev_iconst (pc := 7) (v := 4) dX9_kindTo_7 (by decide) ?_
  refine ev_rem (pc := 8) dX9_kindTo_8 (by decide) ?_
  exact ev_iret (pc := 9) dX9_kindTo_9 rfl (by decide) (by decide) (hQ _ _ ⟨rfl, rfl⟩)

def pb_X9_farTo_5_1 (n : Nat) (I : Nat → Nat → Int32) (A : Nat → Nat → Int32) (J : Nat → Nat → Int64) (t : Bool × Bool) (x1 : Int32) (x2 : Int32) : Prop := pb_X9_shortest_5_1 n I A J t x1 x2
def px_X9_farTo_5_1 (n : Nat) (I : Nat → Nat → Int32) (A : Nat → Nat → Int32) (J : Nat → Nat → Int64) (t : Bool × Bool) (x1 : Int32) (x2 : Int32) : Int32 := (px_J9_min_7cf53 n I A J t (((px_X9_shortest_5_1 n I A J t x1 x2) / 4) / 5) 4)
set_option maxRecDepth 100000 in
set_option maxHeartbeats 4000000 in
theorem cv_X9_farTo_5_1 (g : cw_G) (n : Nat) (I : Nat → Nat → Int32) (A : Nat → Nat → Int32) (J : Nat → Nat → Int64) (t : Bool × Bool) (x1 : Int32) (x2 : Int32) (hb : pb_X9_farTo_5_1 n I A J t x1 x2) : Cd g mX9_farTo [(.ref (cw_z g + 5)), (.int x1), (.ref (cw_z g + 1)), (.int x2)] (hp g I A J t) (some (.int (px_X9_farTo_5_1 n I A J t x1 x2))) (hp g I A J t) := by
  unfold pb_X9_farTo_5_1 at hb
  unfold px_X9_farTo_5_1
  refine Cd.of rfl (Nat.le_of_ble_eq_true rfl) (ev_gen (fun Q hQ => ?_))
  refine ev_aload_n (pc := 0) dX9_farTo_0 rfl ?_
  refine ev_iload_n (pc := 1) dX9_farTo_1 rfl ?_
  refine ev_aload_n (pc := 2) dX9_farTo_2 rfl ?_
  refine ev_iload_n (pc := 3) dX9_farTo_3 rfl ?_
  refine ev_Vi (pc := 4) dX9_farTo_4 lk_X9_46 cd_X9_shortest ar_X9_shortest ⟨by decide, rfl, rfl⟩ (cv_X9_shortest_5_1 g n I A J t x1 x2 hb) (show 5 < 120 by decide) rfl rfl rfl rfl (Nat.le_of_ble_eq_true rfl) ⟨by decide, by decide⟩ ?_
  refine ev_iconst (pc := 7) (v := 4) dX9_farTo_7 (by decide) ?_
  refine ev_idiv (pc := 8) dX9_farTo_8 (by decide) ?_
  refine ev_iconst (pc := 9) (v := 5) dX9_farTo_9 (by decide) ?_
  refine ev_idiv (pc := 10) dX9_farTo_10 (by decide) ?_
  refine ev_iconst (pc := 11) (v := 4) dX9_farTo_11 (by decide) ?_
  refine ev_Si (pc := 12) dX9_farTo_12 lk_X9_37 cd_J9_min_7cf53 ar_J9_min_7cf53 ⟨by decide, rfl, rfl⟩ (cv_J9_min_7cf53 g n I A J t (((px_X9_shortest_5_1 n I A J t x1 x2) / 4) / 5) 4) rfl rfl (Nat.le_of_ble_eq_true rfl) ⟨by decide, by decide⟩ ?_
  exact ev_iret (pc := 15) dX9_farTo_15 rfl (by decide) (by decide) (hQ _ _ ⟨rfl, rfl⟩)
