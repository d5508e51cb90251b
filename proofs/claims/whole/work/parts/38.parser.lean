def qs0m9_X4_isRelation (n : Nat) (I : Nat → Nat → Int32) (A : Nat → Nat → Int32) (J : Nat → Nat → Int64) (t : Bool × Bool) (x1 : Int32) : Int32 := if 10 < x1 then 0 else 1
def qs0m3_X4_isRelation (n : Nat) (I : Nat → Nat → Int32) (A : Nat → Nat → Int32) (J : Nat → Nat → Int64) (t : Bool × Bool) (x1 : Int32) : Int32 := if x1 < 7 then 0 else (qs0m9_X4_isRelation n I A J t x1)
def px_X4_isRelation (n : Nat) (I : Nat → Nat → Int32) (A : Nat → Nat → Int32) (J : Nat → Nat → Int64) (t : Bool × Bool) (x1 : Int32) : Int32 := (qs0m3_X4_isRelation n I A J t x1)
set_option maxRecDepth 100000 in
set_option maxHeartbeats 4000000 in
theorem cv_X4_isRelation (g : cw_G) (n : Nat) (I : Nat → Nat → Int32) (A : Nat → Nat → Int32) (J : Nat → Nat → Int64) (t : Bool × Bool) (x1 : Int32) : Cd g mX4_isRelation [(.int x1)] (hp g I A J t) (some (.int (px_X4_isRelation n I A J t x1))) (hp g I A J t) := by
  unfold px_X4_isRelation
  refine Cd.of rfl (Nat.le_of_ble_eq_true rfl) (ev_gen (fun Q hQ => ?_))
  refine ev_iload_n (pc := 0) dX4_isRelation_0 rfl ?_
  refine ev_bipush (pc := 1) (v := 7) dX4_isRelation_1 (by decide) ?_
  refine ev_cut (pj := 17) (Lj := [some (.int x1)]) (stj := [(.int (qs0m3_X4_isRelation n I A J t x1))]) (σj := hp g I A J t) ?_ (fun hJ_3 => ?_)
  rotate_left
  · refine ev_icmp_lt (pc := 3) (tgt := 16) dX4_isRelation_3 (by decide) (fun c_3 => ?_) (fun c_3 => ?_)
    · refine ev_iconst (pc := 16) (v := 0) dX4_isRelation_16 (by decide) ?_
      simp only [qs0m3_X4_isRelation, if_pos c_3] at hJ_3
      exact ev_loc hJ_3 cw_le0
    · refine ev_iload_n (pc := 6) dX4_isRelation_6 rfl ?_
      refine ev_bipush (pc := 7) (v := 10) dX4_isRelation_7 (by decide) ?_
      refine ev_cut (pj := 17) (Lj := [some (.int x1)]) (stj := [(.int (qs0m9_X4_isRelation n I A J t x1))]) (σj := hp g I A J t) ?_ (fun hJ_9 => ?_)
      rotate_left
      · refine ev_icmp_gt (pc := 9) (tgt := 16) dX4_isRelation_9 (by decide) (fun c_9 => ?_) (fun c_9 => ?_)
        · refine ev_iconst (pc := 16) (v := 0) dX4_isRelation_16 (by decide) ?_
          simp only [qs0m9_X4_isRelation, if_pos c_9] at hJ_9
          exact ev_loc hJ_9 cw_le0
        · refine ev_iconst (pc := 12) (v := 1) dX4_isRelation_12 (by decide) ?_
          refine ev_goto (pc := 13) (tgt := 17) dX4_isRelation_13 (by decide) ?_
          simp only [qs0m9_X4_isRelation, if_neg c_9] at hJ_9
          exact ev_loc hJ_9 cw_le0
      simp only [qs0m3_X4_isRelation, if_neg c_3] at hJ_3
      exact ev_loc hJ_3 cw_le0
  exact ev_zret (pc := 17) dX4_isRelation_17 rfl (cw_nz (cw_ite (Or.inl rfl) (cw_ite (Or.inl rfl) (Or.inr rfl)))) (by decide) (by decide) (hQ _ _ ⟨rfl, rfl⟩)

theorem z1_X4_isRelation (n : Nat) (I : Nat → Nat → Int32) (A : Nat → Nat → Int32) (J : Nat → Nat → Int64) (t : Bool × Bool) (x1 : Int32) : px_X4_isRelation n I A J t x1 = 0 ∨ px_X4_isRelation n I A J t x1 = 1 := (cw_ite (Or.inl rfl) (cw_ite (Or.inl rfl) (Or.inr rfl)))

def qs0m24_X4_rank (n : Nat) (I : Nat → Nat → Int32) (A : Nat → Nat → Int32) (J : Nat → Nat → Int64) (t : Bool × Bool) (x1 : Int32) : Int32 := if (px_X4_isRelation n I A J t x1) = 0 then 0 else 1
def px_X4_rank (n : Nat) (I : Nat → Nat → Int32) (A : Nat → Nat → Int32) (J : Nat → Nat → Int64) (t : Bool × Bool) (x1 : Int32) : Int32 := (if x1 = 6 then 3 else (if x1 = 4 then 2 else (if x1 = 5 then 2 else (qs0m24_X4_rank n I A J t x1))))
set_option maxRecDepth 100000 in
set_option maxHeartbeats 4000000 in
theorem cv_X4_rank (g : cw_G) (n : Nat) (I : Nat → Nat → Int32) (A : Nat → Nat → Int32) (J : Nat → Nat → Int64) (t : Bool × Bool) (x1 : Int32) : Cd g mX4_rank [(.int x1)] (hp g I A J t) (some (.int (px_X4_rank n I A J t x1))) (hp g I A J t) := by
  unfold px_X4_rank
  refine Cd.of rfl (Nat.le_of_ble_eq_true rfl) (ev_gen (fun Q hQ => ?_))
  refine ev_iload_n (pc := 0) dX4_rank_0 rfl ?_
  refine ev_bipush (pc := 1) (v := 6) dX4_rank_1 (by decide) ?_
  refine ev_icmp_ne (pc := 3) (tgt := 8) dX4_rank_3 (by decide) (fun c_3 => ?_) (fun c_3 => ?_)
  · try simp only [if_neg c_3] at hQ
    refine ev_iload_n (pc := 8) dX4_rank_8 rfl ?_
    refine ev_iconst (pc := 9) (v := 4) dX4_rank_9 (by decide) ?_
    refine ev_icmp_eq (pc := 10) (tgt := 18) dX4_rank_10 (by decide) (fun c_10 => ?_) (fun c_10 => ?_)
    · try simp only [if_pos c_10] at hQ
      refine ev_iconst (pc := 18) (v := 2) dX4_rank_18 (by decide) ?_
      exact ev_iret (pc := 19) dX4_rank_19 rfl (by decide) (by decide) (hQ _ _ ⟨rfl, rfl⟩)
    · try simp only [if_neg c_10] at hQ
      refine ev_iload_n (pc := 13) dX4_rank_13 rfl ?_
      refine ev_iconst (pc := 14) (v := 5) dX4_rank_14 (by decide) ?_
      refine ev_icmp_ne (pc := 15) (tgt := 20) dX4_rank_15 (by decide) (fun c_15 => ?_) (fun c_15 => ?_)
      · try simp only [if_neg c_15] at hQ
        refine ev_iload_n (pc := 20) dX4_rank_20 rfl ?_
        refine ev_Si (pc := 21) dX4_rank_21 lk_X4_95 cd_X4_isRelation ar_X4_isRelation ⟨by decide, rfl, rfl⟩ (cv_X4_isRelation g n I A J t x1) rfl rfl (Nat.le_of_ble_eq_true rfl) ⟨by decide, by decide⟩ ?_
        refine ev_cut (pj := 32) (Lj := [some (.int x1)]) (stj := [(.int (qs0m24_X4_rank n I A J t x1))]) (σj := hp g I A J t) ?_ (fun hJ_24 => ?_)
        rotate_left
        · refine ev_if_eq (pc := 24) (tgt := 31) dX4_rank_24 (by decide) (fun c_24 => ?_) (fun c_24 => ?_)
          · refine ev_iconst (pc := 31) (v := 0) dX4_rank_31 (by decide) ?_
            simp only [qs0m24_X4_rank, if_pos c_24] at hJ_24
            exact ev_loc hJ_24 cw_le0
          · refine ev_iconst (pc := 27) (v := 1) dX4_rank_27 (by decide) ?_
            refine ev_goto (pc := 28) (tgt := 32) dX4_rank_28 (by decide) ?_
            simp only [qs0m24_X4_rank, if_neg c_24] at hJ_24
            exact ev_loc hJ_24 cw_le0
        exact ev_iret (pc := 32) dX4_rank_32 rfl (by decide) (by decide) (hQ _ _ ⟨rfl, rfl⟩)
      · try simp only [if_pos c_15] at hQ
        refine ev_iconst (pc := 18) (v := 2) dX4_rank_18 (by decide) ?_
        exact ev_iret (pc := 19) dX4_rank_19 rfl (by decide) (by decide) (hQ _ _ ⟨rfl, rfl⟩)
  · try simp only [if_pos c_3] at hQ
    refine ev_iconst (pc := 6) (v := 3) dX4_rank_6 (by decide) ?_
    exact ev_iret (pc := 7) dX4_rank_7 rfl (by decide) (by decide) (hQ _ _ ⟨rfl, rfl⟩)

def qs0m44_X4_stateBehindDays_33 (n : Nat) (I : Nat → Nat → Int32) (A : Nat → Nat → Int32) (J : Nat → Nat → Int64) (t : Bool × Bool) (x1 : Int32) : Int32 := if x1 = 3 then 0 else (-1)
def px_X4_stateBehindDays_33 (n : Nat) (I : Nat → Nat → Int32) (A : Nat → Nat → Int32) (J : Nat → Nat → Int64) (t : Bool × Bool) (x1 : Int32) : Int32 := (if x1 = 16 then (if (I 33 4) = 2 then 3 else (if x1 = 17 then (if (I 33 4) = 6 then (if x1 = 18 then 7 else (qs0m44_X4_stateBehindDays_33 n I A J t x1)) else 5) else (if x1 = 18 then 7 else (qs0m44_X4_stateBehindDays_33 n I A J t x1)))) else (if x1 = 17 then (if (I 33 4) = 6 then (if x1 = 18 then 7 else (qs0m44_X4_stateBehindDays_33 n I A J t x1)) else 5) else (if x1 = 18 then 7 else (qs0m44_X4_stateBehindDays_33 n I A J t x1))))
set_option maxRecDepth 100000 in
set_option maxHeartbeats 4000000 in
theorem cv_X4_stateBehindDays_33 (g : cw_G) (n : Nat) (I : Nat → Nat → Int32) (A : Nat → Nat → Int32) (J : Nat → Nat → Int64) (t : Bool × Bool) (x1 : Int32) : Cd g mX4_stateBehindDays [(.ref (cw_z g + 33)), (.int x1)] (hp g I A J t) (some (.int (px_X4_stateBehindDays_33 n I A J t x1))) (hp g I A J t) := by
  unfold px_X4_stateBehindDays_33
  refine Cd.of rfl (Nat.le_of_ble_eq_true rfl) (ev_gen (fun Q hQ => ?_))
  refine ev_iload_n (pc := 0) dX4_stateBehindDays_0 rfl ?_
  refine ev_bipush (pc := 1) (v := 16) dX4_stateBehindDays_1 (by decide) ?_
  refine ev_icmp_ne (pc := 3) (tgt := 16) dX4_stateBehindDays_3 (by decide) (fun c_3 => ?_) (fun c_3 => ?_)
  · try simp only [if_neg c_3] at hQ
    refine ev_iload_n (pc := 16) dX4_stateBehindDays_16 rfl ?_
    refine ev_bipush (pc := 17) (v := 17) dX4_stateBehindDays_17 (by decide) ?_
    refine ev_icmp_ne (pc := 19) (tgt := 33) dX4_stateBehindDays_19 (by decide) (fun c_19 => ?_) (fun c_19 => ?_)
    · try simp only [if_neg c_19] at hQ
      refine ev_iload_n (pc := 33) dX4_stateBehindDays_33 rfl ?_
      refine ev_bipush (pc := 34) (v := 18) dX4_stateBehindDays_34 (by decide) ?_
      refine ev_icmp_ne (pc := 36) (tgt := 42) dX4_stateBehindDays_36 (by decide) (fun c_36 => ?_) (fun c_36 => ?_)
      · try simp only [if_neg c_36] at hQ
        refine ev_iload_n (pc := 42) dX4_stateBehindDays_42 rfl ?_
        refine ev_iconst (pc := 43) (v := 3) dX4_stateBehindDays_43 (by decide) ?_
        refine ev_cut (pj := 52) (Lj := [some (.ref (cw_z g + 33)), some (.int x1)]) (stj := [(.int (qs0m44_X4_stateBehindDays_33 n I A J t x1))]) (σj := hp g I A J t) ?_ (fun hJ_44 => ?_)
        rotate_left
        · refine ev_icmp_ne (pc := 44) (tgt := 51) dX4_stateBehindDays_44 (by decide) (fun c_44 => ?_) (fun c_44 => ?_)
          · refine ev_iconst (pc := 51) (v := (-1)) dX4_stateBehindDays_51 (by decide) ?_
            simp only [qs0m44_X4_stateBehindDays_33, if_neg c_44] at hJ_44
            exact ev_loc hJ_44 cw_le0
          · refine ev_iconst (pc := 47) (v := 0) dX4_stateBehindDays_47 (by decide) ?_
            refine ev_goto (pc := 48) (tgt := 52) dX4_stateBehindDays_48 (by decide) ?_
            simp only [qs0m44_X4_stateBehindDays_33, if_pos c_44] at hJ_44
            exact ev_loc hJ_44 cw_le0
        exact ev_iret (pc := 52) dX4_stateBehindDays_52 rfl (by decide) (by decide) (hQ _ _ ⟨rfl, rfl⟩)
      · try simp only [if_pos c_36] at hQ
        refine ev_bipush (pc := 39) (v := 7) dX4_stateBehindDays_39 (by decide) ?_
        exact ev_iret (pc := 41) dX4_stateBehindDays_41 rfl (by decide) (by decide) (hQ _ _ ⟨rfl, rfl⟩)
    · try simp only [if_pos c_19] at hQ
      refine ev_aload_n (pc := 22) dX4_stateBehindDays_22 rfl ?_
      refine tv_geti (pc := 23) dX4_stateBehindDays_23 fl_X4_33 (by decide) rfl rfl ?_
      refine ev_bipush (pc := 26) (v := 6) dX4_stateBehindDays_26 (by decide) ?_
      refine ev_icmp_eq (pc := 28) (tgt := 33) dX4_stateBehindDays_28 (by decide) (fun c_28 => ?_) (fun c_28 => ?_)
      · try simp only [if_pos c_28] at hQ
        refine ev_iload_n (pc := 33) dX4_stateBehindDays_33 rfl ?_
        refine ev_bipush (pc := 34) (v := 18) dX4_stateBehindDays_34 (by decide) ?_
        refine ev_icmp_ne (pc := 36) (tgt := 42) dX4_stateBehindDays_36 (by decide) (fun c_36 => ?_) (fun c_36 => ?_)
        · try simp only [if_neg c_36] at hQ
          refine ev_iload_n (pc := 42) dX4_stateBehindDays_42 rfl ?_
          refine ev_iconst (pc := 43) (v := 3) dX4_stateBehindDays_43 (by decide) ?_
          refine ev_cut (pj := 52) (Lj := [some (.ref (cw_z g + 33)), some (.int x1)]) (stj := [(.int (qs0m44_X4_stateBehindDays_33 n I A J t x1))]) (σj := hp g I A J t) ?_ (fun hJ_44 => ?_)
          rotate_left
          · refine ev_icmp_ne (pc := 44) (tgt := 51) dX4_stateBehindDays_44 (by decide) (fun c_44 => ?_) (fun c_44 => ?_)
            · refine ev_iconst (pc := 51) (v := (-1)) dX4_stateBehindDays_51 (by decide) ?_
              simp only [qs0m44_X4_stateBehindDays_33, if_neg c_44] at hJ_44
              exact ev_loc hJ_44 cw_le0
            · refine ev_iconst (pc := 47) (v := 0) dX4_stateBehindDays_47 (by decide) ?_
              refine ev_goto (pc := 48) (tgt := 52) dX4_stateBehindDays_48 (by decide) ?_
              simp only [qs0m44_X4_stateBehindDays_33, if_pos c_44] at hJ_44
              exact ev_loc hJ_44 cw_le0
          exact ev_iret (pc := 52) dX4_stateBehindDays_52 rfl (by decide) (by decide) (hQ _ _ ⟨rfl, rfl⟩)
        · try simp only [if_pos c_36] at hQ
          refine ev_bipush (pc := 39) (v := 7) dX4_stateBehindDays_39 (by decide) ?_
          exact ev_iret (pc := 41) dX4_stateBehindDays_41 rfl (by decide) (by decide) (hQ _ _ ⟨rfl, rfl⟩)
      · try simp only [if_neg c_28] at hQ
        refine ev_iconst (pc := 31) (v := 5) dX4_stateBehindDays_31 (by decide) ?_
        exact ev_iret (pc := 32) dX4_stateBehindDays_32 rfl (by decide) (by decide) (hQ _ _ ⟨rfl, rfl⟩)
  · try simp only [if_pos c_3] at hQ
    refine ev_aload_n (pc := 6) dX4_stateBehindDays_6 rfl ?_
    refine tv_geti (pc := 7) dX4_stateBehindDays_7 fl_X4_33 (by decide) rfl rfl ?_
    refine ev_iconst (pc := 10) (v := 2) dX4_stateBehindDays_10 (by decide) ?_
    refine ev_icmp_ne (pc := 11) (tgt := 16) dX4_stateBehindDays_11 (by decide) (fun c_11 => ?_) (fun c_11 => ?_)
    · try simp only [if_neg c_11] at hQ
      refine ev_iload_n (pc := 16) dX4_stateBehindDays_16 rfl ?_
      refine ev_bipush (pc := 17) (v := 17) dX4_stateBehindDays_17 (by decide) ?_
      refine ev_icmp_ne (pc := 19) (tgt := 33) dX4_stateBehindDays_19 (by decide) (fun c_19 => ?_) (fun c_19 => ?_)
      · try simp only [if_neg c_19] at hQ
        refine ev_iload_n (pc := 33) dX4_stateBehindDays_33 rfl ?_
        refine ev_bipush (pc := 34) (v := 18) dX4_stateBehindDays_34 (by decide) ?_
        refine ev_icmp_ne (pc := 36) (tgt := 42) dX4_stateBehindDays_36 (by decide) (fun c_36 => ?_) (fun c_36 => ?_)
        · try simp only [if_neg c_36] at hQ
          refine ev_iload_n (pc := 42) dX4_stateBehindDays_42 rfl ?_
          refine ev_iconst (pc := 43) (v := 3) dX4_stateBehindDays_43 (by decide) ?_
          refine ev_cut (pj := 52) (Lj := [some (.ref (cw_z g + 33)), some (.int x1)]) (stj := [(.int (qs0m44_X4_stateBehindDays_33 n I A J t x1))]) (σj := hp g I A J t) ?_ (fun hJ_44 => ?_)
          rotate_left
          · refine ev_icmp_ne (pc := 44) (tgt := 51) dX4_stateBehindDays_44 (by decide) (fun c_44 => ?_) (fun c_44 => ?_)
            · refine ev_iconst (pc := 51) (v := (-1)) dX4_stateBehindDays_51 (by decide) ?_
              simp only [qs0m44_X4_stateBehindDays_33, if_neg c_44] at hJ_44
              exact ev_loc hJ_44 cw_le0
            · refine ev_iconst (pc := 47) (v := 0) dX4_stateBehindDays_47 (by decide) ?_
              refine ev_goto (pc := 48) (tgt := 52) dX4_stateBehindDays_48 (by decide) ?_
              simp only [qs0m44_X4_stateBehindDays_33, if_pos c_44] at hJ_44
              exact ev_loc hJ_44 cw_le0
          exact ev_iret (pc := 52) dX4_stateBehindDays_52 rfl (by decide) (by decide) (hQ _ _ ⟨rfl, rfl⟩)
        · try simp only [if_pos c_36] at hQ
          refine ev_bipush (pc := 39) (v := 7) dX4_stateBehindDays_39 (by decide) ?_
          exact ev_iret (pc := 41) dX4_stateBehindDays_41 rfl (by decide) (by decide) (hQ _ _ ⟨rfl, rfl⟩)
      · try simp only [if_pos c_19] at hQ
        refine ev_aload_n (pc := 22) dX4_stateBehindDays_22 rfl ?_
        refine tv_geti (pc := 23) dX4_stateBehindDays_23 fl_X4_33 (by decide) rfl rfl ?_
        refine ev_bipush (pc := 26) (v := 6) dX4_stateBehindDays_26 (by decide) ?_
        refine ev_icmp_eq (pc := 28) (tgt := 33) dX4_stateBehindDays_28 (by decide) (fun c_28 => ?_) (fun c_28 => ?_)
        · try simp only [if_pos c_28] at hQ
          refine ev_iload_n (pc := 33) dX4_stateBehindDays_33 rfl ?_
          refine ev_bipush (pc := 34) (v := 18) dX4_stateBehindDays_34 (by decide) ?_
          refine ev_icmp_ne (pc := 36) (tgt := 42) dX4_stateBehindDays_36 (by decide) (fun c_36 => ?_) (fun c_36 => ?_)
          · try simp only [if_neg c_36] at hQ
            refine ev_iload_n (pc := 42) dX4_stateBehindDays_42 rfl ?_
            refine ev_iconst (pc := 43) (v := 3) dX4_stateBehindDays_43 (by decide) ?_
            refine ev_cut (pj := 52) (Lj := [some (.ref (cw_z g + 33)), some (.int x1)]) (stj := [(.int (qs0m44_X4_stateBehindDays_33 n I A J t x1))]) (σj := hp g I A J t) ?_ (fun hJ_44 => ?_)
            rotate_left
            · refine ev_icmp_ne (pc := 44) (tgt := 51) dX4_stateBehindDays_44 (by decide) (fun c_44 => ?_) (fun c_44 => ?_)
              · refine ev_iconst (pc := 51) (v := (-1)) dX4_stateBehindDays_51 (by decide) ?_
                simp only [qs0m44_X4_stateBehindDays_33, if_neg c_44] at hJ_44
                exact ev_loc hJ_44 cw_le0
              · refine ev_iconst (pc := 47) (v := 0) dX4_stateBehindDays_47 (by decide) ?_
                refine ev_goto (pc := 48) (tgt := 52) dX4_stateBehindDays_48 (by decide) ?_
                simp only [qs0m44_X4_stateBehindDays_33, if_pos c_44] at hJ_44
                exact ev_loc hJ_44 cw_le0
            exact ev_iret (pc := 52) dX4_stateBehindDays_52 rfl (by decide) (by decide) (hQ _ _ ⟨rfl, rfl⟩)
          · try simp only [if_pos c_36] at hQ
            refine ev_bipush (pc := 39) (v := 7) dX4_stateBehindDays_39 (by decide) ?_
            exact ev_iret (pc := 41) dX4_stateBehindDays_41 rfl (by decide) (by decide) (hQ _ _ ⟨rfl, rfl⟩)
        · try simp only [if_neg c_28] at hQ
          refine ev_iconst (pc := 31) (v := 5) dX4_stateBehindDays_31 (by decide) ?_
          exact ev_iret (pc := 32) dX4_stateBehindDays_32 rfl (by decide) (by decide) (hQ _ _ ⟨rfl, rfl⟩)
    · try simp only [if_pos c_11] at hQ
      refine ev_iconst (pc := 14) (v := 3) dX4_stateBehindDays_14 (by decide) ?_
      exact ev_iret (pc := 15) dX4_stateBehindDays_15 rfl (by decide) (by decide) (hQ _ _ ⟨rfl, rfl⟩)

def qs0m71_X4_stateBehindUnit_33 (n : Nat) (I : Nat → Nat → Int32) (A : Nat → Nat → Int32) (J : Nat → Nat → Int64) (t : Bool × Bool) (x1 : Int32) : Int32 := if x1 = 3 then 0 else (-1)
def qs0m50_X4_stateBehindUnit_33 (n : Nat) (I : Nat → Nat → Int32) (A : Nat → Nat → Int32) (J : Nat → Nat → Int64) (t : Bool × Bool) (x1 : Int32) : Int32 := if (px_X4_isRelation n I A J t x1) = 0 then (-1) else 7
def qs0m29_X4_stateBehindUnit_33 (n : Nat) (I : Nat → Nat → Int32) (A : Nat → Nat → Int32) (J : Nat → Nat → Int64) (t : Bool × Bool) (x1 : Int32) : Int32 := if x1 = 12 then 8 else (-1)
def px_X4_stateBehindUnit_33 (n : Nat) (I : Nat → Nat → Int32) (A : Nat → Nat → Int32) (J : Nat → Nat → Int64) (t : Bool × Bool) (x1 : Int32) : Int32 := (if x1 = 4 then 7 else (if x1 = 5 then 7 else (if x1 = 6 then 7 else (if (I 33 5) ≤ 0 then (if (I 33 6) = 0 then (qs0m50_X4_stateBehindUnit_33 n I A J t x1) else (if x1 = 19 then 7 else (qs0m71_X4_stateBehindUnit_33 n I A J t x1))) else (qs0m29_X4_stateBehindUnit_33 n I A J t x1)))))
set_option maxRecDepth 100000 in
set_option maxHeartbeats 4000000 in
theorem cv_X4_stateBehindUnit_33 (g : cw_G) (n : Nat) (I : Nat → Nat → Int32) (A : Nat → Nat → Int32) (J : Nat → Nat → Int64) (t : Bool × Bool) (x1 : Int32) : Cd g mX4_stateBehindUnit [(.ref (cw_z g + 33)), (.int x1)] (hp g I A J t) (some (.int (px_X4_stateBehindUnit_33 n I A J t x1))) (hp g I A J t) := by
  unfold px_X4_stateBehindUnit_33
  refine Cd.of rfl (Nat.le_of_ble_eq_true rfl) (ev_gen (fun Q hQ => ?_))
  refine ev_iload_n (pc := 0) dX4_stateBehindUnit_0 rfl ?_
  refine ev_iconst (pc := 1) (v := 4) dX4_stateBehindUnit_1 (by decide) ?_
  refine ev_icmp_eq (pc := 2) (tgt := 16) dX4_stateBehindUnit_2 (by decide) (fun c_2 => ?_) (fun c_2 => ?_)
  · try simp only [if_pos c_2] at hQ
    refine ev_bipush (pc := 16) (v := 7) dX4_stateBehindUnit_16 (by decide) ?_
    exact ev_iret (pc := 18) dX4_stateBehindUnit_18 rfl (by decide) (by decide) (hQ _ _ ⟨rfl, rfl⟩)
  · try simp only [if_neg c_2] at hQ
    refine ev_iload_n (pc := 5) dX4_stateBehindUnit_5 rfl ?_
    refine ev_iconst (pc := 6) (v := 5) dX4_stateBehindUnit_6 (by decide) ?_
    refine ev_icmp_eq (pc := 7) (tgt := 16) dX4_stateBehindUnit_7 (by decide) (fun c_7 => ?_) (fun c_7 => ?_)
    · try simp only [if_pos c_7] at hQ
      refine ev_bipush (pc := 16) (v := 7) dX4_stateBehindUnit_16 (by decide) ?_
      exact ev_iret (pc := 18) dX4_stateBehindUnit_18 rfl (by decide) (by decide) (hQ _ _ ⟨rfl, rfl⟩)
    · try simp only [if_neg c_7] at hQ
      refine ev_iload_n (pc := 10) dX4_stateBehindUnit_10 rfl ?_
      refine ev_bipush (pc := 11) (v := 6) dX4_stateBehindUnit_11 (by decide) ?_
      refine ev_icmp_ne (pc := 13) (tgt := 19) dX4_stateBehindUnit_13 (by decide) (fun c_13 => ?_) (fun c_13 => ?_)
      · try simp only [if_neg c_13] at hQ
        refine ev_aload_n (pc := 19) dX4_stateBehindUnit_19 rfl ?_
        refine tv_geti (pc := 20) dX4_stateBehindUnit_20 fl_X4_36 (by decide) rfl rfl ?_
        refine ev_if_le (pc := 23) (tgt := 39) dX4_stateBehindUnit_23 (by decide) (fun c_23 => ?_) (fun c_23 => ?_)
        · try simp only [if_pos c_23] at hQ
          refine ev_aload_n (pc := 39) dX4_stateBehindUnit_39 rfl ?_
          refine tv_geti (pc := 40) dX4_stateBehindUnit_40 fl_X4_39 (by decide) rfl rfl ?_
          refine ev_if_ne (pc := 43) (tgt := 60) dX4_stateBehindUnit_43 (by decide) (fun c_43 => ?_) (fun c_43 => ?_)
          · try simp only [if_neg c_43] at hQ
            refine ev_iload_n (pc := 60) dX4_stateBehindUnit_60 rfl ?_
            refine ev_bipush (pc := 61) (v := 19) dX4_stateBehindUnit_61 (by decide) ?_
            refine ev_icmp_ne (pc := 63) (tgt := 69) dX4_stateBehindUnit_63 (by decide) (fun c_63 => ?_) (fun c_63 => ?_)
            · try simp only [if_neg c_63] at hQ
              refine ev_iload_n (pc := 69) dX4_stateBehindUnit_69 rfl ?_
              refine ev_iconst (pc := 70) (v := 3) dX4_stateBehindUnit_70 (by decide) ?_
              refine ev_cut (pj := 79) (Lj := [some (.ref (cw_z g + 33)), some (.int x1)]) (stj := [(.int (qs0m71_X4_stateBehindUnit_33 n I A J t x1))]) (σj := hp g I A J t) ?_ (fun hJ_71 => ?_)
              rotate_left
              · refine ev_icmp_ne (pc := 71) (tgt := 78) dX4_stateBehindUnit_71 (by decide) (fun c_71 => ?_) (fun c_71 => ?_)
                · refine ev_iconst (pc := 78) (v := (-1)) dX4_stateBehindUnit_78 (by decide) ?_
                  simp only [qs0m71_X4_stateBehindUnit_33, if_neg c_71] at hJ_71
                  exact ev_loc hJ_71 cw_le0
                · refine ev_iconst (pc := 74) (v := 0) dX4_stateBehindUnit_74 (by decide) ?_
                  refine ev_goto (pc := 75) (tgt := 79) dX4_stateBehindUnit_75 (by decide) ?_
                  simp only [qs0m71_X4_stateBehindUnit_33, if_pos c_71] at hJ_71
                  exact ev_loc hJ_71 cw_le0
              exact ev_iret (pc := 79) dX4_stateBehindUnit_79 rfl (by decide) (by decide) (hQ _ _ ⟨rfl, rfl⟩)
            · try simp only [if_pos c_63] at hQ
              refine ev_bipush (pc := 66) (v := 7) dX4_stateBehindUnit_66 (by decide) ?_
              exact ev_iret (pc := 68) dX4_stateBehindUnit_68 rfl (by decide) (by decide) (hQ _ _ ⟨rfl, rfl⟩)
          · try simp only [if_pos c_43] at hQ
            refine ev_iload_n (pc := 46) dX4_stateBehindUnit_46 rfl ?_
            refine ev_Si (pc := 47) dX4_stateBehindUnit_47 lk_X4_95 cd_X4_isRelation ar_X4_isRelation ⟨by decide, rfl, rfl⟩ (cv_X4_isRelation g n I A J t x1) rfl rfl (Nat.le_of_ble_eq_true rfl) ⟨by decide, by decide⟩ ?_
            refine ev_cut (pj := 59) (Lj := [some (.ref (cw_z g + 33)), some (.int x1)]) (stj := [(.int (qs0m50_X4_stateBehindUnit_33 n I A J t x1))]) (σj := hp g I A J t) ?_ (fun hJ_50 => ?_)
            rotate_left
            · refine ev_if_eq (pc := 50) (tgt := 58) dX4_stateBehindUnit_50 (by decide) (fun c_50 => ?_) (fun c_50 => ?_)
              · refine ev_iconst (pc := 58) (v := (-1)) dX4_stateBehindUnit_58 (by decide) ?_
                simp only [qs0m50_X4_stateBehindUnit_33, if_pos c_50] at hJ_50
                exact ev_loc hJ_50 cw_le0
              · refine ev_bipush (pc := 53) (v := 7) dX4_stateBehindUnit_53 (by decide) ?_
                refine ev_goto (pc := 55) (tgt := 59) dX4_stateBehindUnit_55 (by decide) ?_
                simp only [qs0m50_X4_stateBehindUnit_33, if_neg c_50] at hJ_50
                exact ev_loc hJ_50 cw_le0
            exact ev_iret (pc := 59) dX4_stateBehindUnit_59 rfl (by decide) (by decide) (hQ _ _ ⟨rfl, rfl⟩)
        · try simp only [if_neg c_23] at hQ
          refine ev_iload_n (pc := 26) dX4_stateBehindUnit_26 rfl ?_
          refine ev_bipush (pc := 27) (v := 12) dX4_stateBehindUnit_27 (by decide) ?_
          refine ev_cut (pj := 38) (Lj := [some (.ref (cw_z g + 33)), some (.int x1)]) (stj := [(.int (qs0m29_X4_stateBehindUnit_33 n I A J t x1))]) (σj := hp g I A J t) ?_ (fun hJ_29 => ?_)
          rotate_left
          · refine ev_icmp_ne (pc := 29) (tgt := 37) dX4_stateBehindUnit_29 (by decide) (fun c_29 => ?_) (fun c_29 => ?_)
            · refine ev_iconst (pc := 37) (v := (-1)) dX4_stateBehindUnit_37 (by decide) ?_
              simp only [qs0m29_X4_stateBehindUnit_33, if_neg c_29] at hJ_29
              exact ev_loc hJ_29 cw_le0
            · refine ev_bipush (pc := 32) (v := 8) dX4_stateBehindUnit_32 (by decide) ?_
              refine ev_goto (pc := 34) (tgt := 38) dX4_stateBehindUnit_34 (by decide) ?_
              simp only [qs0m29_X4_stateBehindUnit_33, if_pos c_29] at hJ_29
              exact ev_loc hJ_29 cw_le0
          exact ev_iret (pc := 38) dX4_stateBehindUnit_38 rfl (by decide) (by decide) (hQ _ _ ⟨rfl, rfl⟩)
      · try simp only [if_pos c_13] at hQ
        refine ev_bipush (pc := 16) (v := 7) dX4_stateBehindUnit_16 (by decide) ?_
        exact ev_iret (pc := 18) dX4_stateBehindUnit_18 rfl (by decide) (by decide) (hQ _ _ ⟨rfl, rfl⟩)

def qs0m65_X4_stateBehind_33 (n : Nat) (I : Nat → Nat → Int32) (A : Nat → Nat → Int32) (J : Nat → Nat → Int64) (t : Bool × Bool) (x1 : Int32) : Int32 := if x1 = 14 then 1 else (-1)
def qs0m59_X4_stateBehind_33 (n : Nat) (I : Nat → Nat → Int32) (A : Nat → Nat → Int32) (J : Nat → Nat → Int64) (t : Bool × Bool) (x1 : Int32) : Int32 := if x1 = 13 then 1 else (qs0m65_X4_stateBehind_33 n I A J t x1)
def qs0m77_X4_stateBehind_33 (n : Nat) (I : Nat → Nat → Int32) (A : Nat → Nat → Int32) (J : Nat → Nat → Int64) (t : Bool × Bool) (x1 : Int32) : Int32 := if x1 = 15 then 2 else (-1)
def qs0m88_X4_stateBehind_33 (n : Nat) (I : Nat → Nat → Int32) (A : Nat → Nat → Int32) (J : Nat → Nat → Int64) (t : Bool × Bool) (x1 : Int32) : Int32 := if x1 = 2 then 4 else (-1)
def qs0m99_X4_stateBehind_33 (n : Nat) (I : Nat → Nat → Int32) (A : Nat → Nat → Int32) (J : Nat → Nat → Int64) (t : Bool × Bool) (x1 : Int32) : Int32 := if x1 = 2 then 6 else (-1)
def qs0m128_X4_stateBehind_33 (n : Nat) (I : Nat → Nat → Int32) (A : Nat → Nat → Int32) (J : Nat → Nat → Int64) (t : Bool × Bool) (x1 : Int32) : Int32 := if x1 < 20 then (-1) else 8
def qs0m122_X4_stateBehind_33 (n : Nat) (I : Nat → Nat → Int32) (A : Nat → Nat → Int32) (J : Nat → Nat → Int64) (t : Bool × Bool) (x1 : Int32) : Int32 := if x1 = 2 then 8 else (qs0m128_X4_stateBehind_33 n I A J t x1)
def qs0m112_X4_stateBehind_33 (n : Nat) (I : Nat → Nat → Int32) (A : Nat → Nat → Int32) (J : Nat → Nat → Int64) (t : Bool × Bool) (x1 : Int32) : Int32 := if x1 = 11 then 7 else (qs0m122_X4_stateBehind_33 n I A J t x1)
def px_X4_stateBehind_33 (n : Nat) (I : Nat → Nat → Int32) (A : Nat → Nat → Int32) (J : Nat → Nat → Int64) (t : Bool × Bool) (x1 : Int32) : Int32 := (if (I 33 4) = 0 then (qs0m59_X4_stateBehind_33 n I A J t x1) else (if (I 33 4) = 1 then (qs0m77_X4_stateBehind_33 n I A J t x1) else (if (I 33 4) = 2 then (px_X4_stateBehindDays_33 n I A J t x1) else (if (I 33 4) = 3 then (qs0m88_X4_stateBehind_33 n I A J t x1) else (if (I 33 4) = 4 then (px_X4_stateBehindDays_33 n I A J t x1) else (if (I 33 4) = 5 then (qs0m99_X4_stateBehind_33 n I A J t x1) else (if (I 33 4) = 6 then (px_X4_stateBehindDays_33 n I A J t x1) else (if (I 33 4) = 7 then (qs0m112_X4_stateBehind_33 n I A J t x1) else (if (I 33 4) = 8 then (px_X4_stateBehindUnit_33 n I A J t x1) else (px_X4_stateBehindDays_33 n I A J t x1))))))))))
set_option maxRecDepth 100000 in
set_option maxHeartbeats 4000000 in
theorem cv_X4_stateBehind_33 (g : cw_G) (n : Nat) (I : Nat → Nat → Int32) (A : Nat → Nat → Int32) (J : Nat → Nat → Int64) (t : Bool × Bool) (x1 : Int32) : Cd g mX4_stateBehind [(.ref (cw_z g + 33)), (.int x1)] (hp g I A J t) (some (.int (px_X4_stateBehind_33 n I A J t x1))) (hp g I A J t) := by
  unfold px_X4_stateBehind_33
  refine Cd.of rfl (Nat.le_of_ble_eq_true rfl) (ev_gen (fun Q hQ => ?_))
  refine ev_aload_n (pc := 0) dX4_stateBehind_0 rfl ?_
  refine tv_geti (pc := 1) dX4_stateBehind_1 fl_X4_33 (by decide) rfl rfl ?_
  by_cases s_4_0 : (I 33 4) = 0
  · try simp only [if_pos s_4_0] at hQ
    refine ev_tableIn (pc := 4) (tgt := 56) (off := 52) dX4_stateBehind_4 (by rw [s_4_0]; decide) (by rw [s_4_0]; decide) (by rw [s_4_0]; decide) (by decide) ?_
    refine ev_iload_n (pc := 56) dX4_stateBehind_56 rfl ?_
    refine ev_bipush (pc := 57) (v := 13) dX4_stateBehind_57 (by decide) ?_
    refine ev_cut (pj := 73) (Lj := [some (.ref (cw_z g + 33)), some (.int x1)]) (stj := [(.int (qs0m59_X4_stateBehind_33 n I A J t x1))]) (σj := hp g I A J t) ?_ (fun hJ_59 => ?_)
    rotate_left
    · refine ev_icmp_eq (pc := 59) (tgt := 68) dX4_stateBehind_59 (by decide) (fun c_59 => ?_) (fun c_59 => ?_)
      · refine ev_iconst (pc := 68) (v := 1) dX4_stateBehind_68 (by decide) ?_
        refine ev_goto (pc := 69) (tgt := 73) dX4_stateBehind_69 (by decide) ?_
        simp only [qs0m59_X4_stateBehind_33, if_pos c_59] at hJ_59
        exact ev_loc hJ_59 cw_le0
      · refine ev_iload_n (pc := 62) dX4_stateBehind_62 rfl ?_
        refine ev_bipush (pc := 63) (v := 14) dX4_stateBehind_63 (by decide) ?_
        refine ev_cut (pj := 73) (Lj := [some (.ref (cw_z g + 33)), some (.int x1)]) (stj := [(.int (qs0m65_X4_stateBehind_33 n I A J t x1))]) (σj := hp g I A J t) ?_ (fun hJ_65 => ?_)
        rotate_left
        · refine ev_icmp_ne (pc := 65) (tgt := 72) dX4_stateBehind_65 (by decide) (fun c_65 => ?_) (fun c_65 => ?_)
          · refine ev_iconst (pc := 72) (v := (-1)) dX4_stateBehind_72 (by decide) ?_
            simp only [qs0m65_X4_stateBehind_33, if_neg c_65] at hJ_65
            exact ev_loc hJ_65 cw_le0
          · refine ev_iconst (pc := 68) (v := 1) dX4_stateBehind_68 (by decide) ?_
            refine ev_goto (pc := 69) (tgt := 73) dX4_stateBehind_69 (by decide) ?_
            simp only [qs0m65_X4_stateBehind_33, if_pos c_65] at hJ_65
            exact ev_loc hJ_65 cw_le0
        simp only [qs0m59_X4_stateBehind_33, if_neg c_59] at hJ_59
        exact ev_loc hJ_59 cw_le0
    exact ev_iret (pc := 73) dX4_stateBehind_73 rfl (by decide) (by decide) (hQ _ _ ⟨rfl, rfl⟩)
  try simp only [if_neg s_4_0] at hQ
  by_cases s_4_1 : (I 33 4) = 1
  · try simp only [if_pos s_4_1] at hQ
    refine ev_tableIn (pc := 4) (tgt := 74) (off := 70) dX4_stateBehind_4 (by rw [s_4_1]; decide) (by rw [s_4_1]; decide) (by rw [s_4_1]; decide) (by decide) ?_
    refine ev_iload_n (pc := 74) dX4_stateBehind_74 rfl ?_
    refine ev_bipush (pc := 75) (v := 15) dX4_stateBehind_75 (by decide) ?_
    refine ev_cut (pj := 85) (Lj := [some (.ref (cw_z g + 33)), some (.int x1)]) (stj := [(.int (qs0m77_X4_stateBehind_33 n I A J t x1))]) (σj := hp g I A J t) ?_ (fun hJ_77 => ?_)
    rotate_left
    · refine ev_icmp_ne (pc := 77) (tgt := 84) dX4_stateBehind_77 (by decide) (fun c_77 => ?_) (fun c_77 => ?_)
      · refine ev_iconst (pc := 84) (v := (-1)) dX4_stateBehind_84 (by decide) ?_
        simp only [qs0m77_X4_stateBehind_33, if_neg c_77] at hJ_77
        exact ev_loc hJ_77 cw_le0
      · refine ev_iconst (pc := 80) (v := 2) dX4_stateBehind_80 (by decide) ?_
        refine ev_goto (pc := 81) (tgt := 85) dX4_stateBehind_81 (by decide) ?_
        simp only [qs0m77_X4_stateBehind_33, if_pos c_77] at hJ_77
        exact ev_loc hJ_77 cw_le0
    exact ev_iret (pc := 85) dX4_stateBehind_85 rfl (by decide) (by decide) (hQ _ _ ⟨rfl, rfl⟩)
  try simp only [if_neg s_4_1] at hQ
  by_cases s_4_2 : (I 33 4) = 2
  · try simp only [if_pos s_4_2] at hQ
    refine ev_tableIn (pc := 4) (tgt := 144) (off := 140) dX4_stateBehind_4 (by rw [s_4_2]; decide) (by rw [s_4_2]; decide) (by rw [s_4_2]; decide) (by decide) ?_
    refine ev_aload_n (pc := 144) dX4_stateBehind_144 rfl ?_
    refine ev_iload_n (pc := 145) dX4_stateBehind_145 rfl ?_
    refine ev_Vi (pc := 146) dX4_stateBehind_146 lk_X4_92 cd_X4_stateBehindDays ar_X4_stateBehindDays ⟨by decide, rfl, rfl⟩ (cv_X4_stateBehindDays_33 g n I A J t x1) (show 33 < 120 by decide) rfl rfl rfl rfl (Nat.le_of_ble_eq_true rfl) ⟨by decide, by decide⟩ ?_
    exact ev_iret (pc := 149) dX4_stateBehind_149 rfl (by decide) (by decide) (hQ _ _ ⟨rfl, rfl⟩)
  try simp only [if_neg s_4_2] at hQ
  by_cases s_4_3 : (I 33 4) = 3
  · try simp only [if_pos s_4_3] at hQ
    refine ev_tableIn (pc := 4) (tgt := 86) (off := 82) dX4_stateBehind_4 (by rw [s_4_3]; decide) (by rw [s_4_3]; decide) (by rw [s_4_3]; decide) (by decide) ?_
    refine ev_iload_n (pc := 86) dX4_stateBehind_86 rfl ?_
    refine ev_iconst (pc := 87) (v := 2) dX4_stateBehind_87 (by decide) ?_
    refine ev_cut (pj := 96) (Lj := [some (.ref (cw_z g + 33)), some (.int x1)]) (stj := [(.int (qs0m88_X4_stateBehind_33 n I A J t x1))]) (σj := hp g I A J t) ?_ (fun hJ_88 => ?_)
    rotate_left
    · refine ev_icmp_ne (pc := 88) (tgt := 95) dX4_stateBehind_88 (by decide) (fun c_88 => ?_) (fun c_88 => ?_)
      · refine ev_iconst (pc := 95) (v := (-1)) dX4_stateBehind_95 (by decide) ?_
        simp only [qs0m88_X4_stateBehind_33, if_neg c_88] at hJ_88
        exact ev_loc hJ_88 cw_le0
      · refine ev_iconst (pc := 91) (v := 4) dX4_stateBehind_91 (by decide) ?_
        refine ev_goto (pc := 92) (tgt := 96) dX4_stateBehind_92 (by decide) ?_
        simp only [qs0m88_X4_stateBehind_33, if_pos c_88] at hJ_88
        exact ev_loc hJ_88 cw_le0
    exact ev_iret (pc := 96) dX4_stateBehind_96 rfl (by decide) (by decide) (hQ _ _ ⟨rfl, rfl⟩)
  try simp only [if_neg s_4_3] at hQ
  by_cases s_4_4 : (I 33 4) = 4
  · try simp only [if_pos s_4_4] at hQ
    refine ev_tableIn (pc := 4) (tgt := 144) (off := 140) dX4_stateBehind_4 (by rw [s_4_4]; decide) (by rw [s_4_4]; decide) (by rw [s_4_4]; decide) (by decide) ?_
    refine ev_aload_n (pc := 144) dX4_stateBehind_144 rfl ?_
    refine ev_iload_n (pc := 145) dX4_stateBehind_145 rfl ?_
    refine ev_Vi (pc := 146) dX4_stateBehind_146 lk_X4_92 cd_X4_stateBehindDays ar_X4_stateBehindDays ⟨by decide, rfl, rfl⟩ (cv_X4_stateBehindDays_33 g n I A J t x1) (show 33 < 120 by decide) rfl rfl rfl rfl (Nat.le_of_ble_eq_true rfl) ⟨by decide, by decide⟩ ?_
    exact ev_iret (pc := 149) dX4_stateBehind_149 rfl (by decide) (by decide) (hQ _ _ ⟨rfl, rfl⟩)
  try simp only [if_neg s_4_4] at hQ
  by_cases s_4_5 : (I 33 4) = 5
  · try simp only [if_pos s_4_5] at hQ
    refine ev_tableIn (pc := 4) (tgt := 97) (off := 93) dX4_stateBehind_4 (by rw [s_4_5]; decide) (by rw [s_4_5]; decide) (by rw [s_4_5]; decide) (by decide) ?_
    refine ev_iload_n (pc := 97) dX4_stateBehind_97 rfl ?_
    refine ev_iconst (pc := 98) (v := 2) dX4_stateBehind_98 (by decide) ?_
    refine ev_cut (pj := 108) (Lj := [some (.ref (cw_z g + 33)), some (.int x1)]) (stj := [(.int (qs0m99_X4_stateBehind_33 n I A J t x1))]) (σj := hp g I A J t) ?_ (fun hJ_99 => ?_)
    rotate_left
    · refine ev_icmp_ne (pc := 99) (tgt := 107) dX4_stateBehind_99 (by decide) (fun c_99 => ?_) (fun c_99 => ?_)
      · refine ev_iconst (pc := 107) (v := (-1)) dX4_stateBehind_107 (by decide) ?_
        simp only [qs0m99_X4_stateBehind_33, if_neg c_99] at hJ_99
        exact ev_loc hJ_99 cw_le0
      · refine ev_bipush (pc := 102) (v := 6) dX4_stateBehind_102 (by decide) ?_
        refine ev_goto (pc := 104) (tgt := 108) dX4_stateBehind_104 (by decide) ?_
        simp only [qs0m99_X4_stateBehind_33, if_pos c_99] at hJ_99
        exact ev_loc hJ_99 cw_le0
    exact ev_iret (pc := 108) dX4_stateBehind_108 rfl (by decide) (by decide) (hQ _ _ ⟨rfl, rfl⟩)
  try simp only [if_neg s_4_5] at hQ
  by_cases s_4_6 : (I 33 4) = 6
  · try simp only [if_pos s_4_6] at hQ
    refine ev_tableIn (pc := 4) (tgt := 144) (off := 140) dX4_stateBehind_4 (by rw [s_4_6]; decide) (by rw [s_4_6]; decide) (by rw [s_4_6]; decide) (by decide) ?_
    refine ev_aload_n (pc := 144) dX4_stateBehind_144 rfl ?_
    refine ev_iload_n (pc := 145) dX4_stateBehind_145 rfl ?_
    refine ev_Vi (pc := 146) dX4_stateBehind_146 lk_X4_92 cd_X4_stateBehindDays ar_X4_stateBehindDays ⟨by decide, rfl, rfl⟩ (cv_X4_stateBehindDays_33 g n I A J t x1) (show 33 < 120 by decide) rfl rfl rfl rfl (Nat.le_of_ble_eq_true rfl) ⟨by decide, by decide⟩ ?_
    exact ev_iret (pc := 149) dX4_stateBehind_149 rfl (by decide) (by decide) (hQ _ _ ⟨rfl, rfl⟩)
  try simp only [if_neg s_4_6] at hQ
  by_cases s_4_7 : (I 33 4) = 7
  · try simp only [if_pos s_4_7] at hQ
    refine ev_tableIn (pc := 4) (tgt := 109) (off := 105) dX4_stateBehind_4 (by rw [s_4_7]; decide) (by rw [s_4_7]; decide) (by rw [s_4_7]; decide) (by decide) ?_
    refine ev_iload_n (pc := 109) dX4_stateBehind_109 rfl ?_
    refine ev_bipush (pc := 110) (v := 11) dX4_stateBehind_110 (by decide) ?_
    refine ev_cut (pj := 137) (Lj := [some (.ref (cw_z g + 33)), some (.int x1)]) (stj := [(.int (qs0m112_X4_stateBehind_33 n I A J t x1))]) (σj := hp g I A J t) ?_ (fun hJ_112 => ?_)
    rotate_left
    · refine ev_icmp_ne (pc := 112) (tgt := 120) dX4_stateBehind_112 (by decide) (fun c_112 => ?_) (fun c_112 => ?_)
      · refine ev_iload_n (pc := 120) dX4_stateBehind_120 rfl ?_
        refine ev_iconst (pc := 121) (v := 2) dX4_stateBehind_121 (by decide) ?_
        refine ev_cut (pj := 137) (Lj := [some (.ref (cw_z g + 33)), some (.int x1)]) (stj := [(.int (qs0m122_X4_stateBehind_33 n I A J t x1))]) (σj := hp g I A J t) ?_ (fun hJ_122 => ?_)
        rotate_left
        · refine ev_icmp_eq (pc := 122) (tgt := 131) dX4_stateBehind_122 (by decide) (fun c_122 => ?_) (fun c_122 => ?_)
          · refine ev_bipush (pc := 131) (v := 8) dX4_stateBehind_131 (by decide) ?_
            refine ev_goto (pc := 133) (tgt := 137) dX4_stateBehind_133 (by decide) ?_
            simp only [qs0m122_X4_stateBehind_33, if_pos c_122] at hJ_122
            exact ev_loc hJ_122 cw_le0
          · refine ev_iload_n (pc := 125) dX4_stateBehind_125 rfl ?_
            refine ev_bipush (pc := 126) (v := 20) dX4_stateBehind_126 (by decide) ?_
            refine ev_cut (pj := 137) (Lj := [some (.ref (cw_z g + 33)), some (.int x1)]) (stj := [(.int (qs0m128_X4_stateBehind_33 n I A J t x1))]) (σj := hp g I A J t) ?_ (fun hJ_128 => ?_)
            rotate_left
            · refine ev_icmp_lt (pc := 128) (tgt := 136) dX4_stateBehind_128 (by decide) (fun c_128 => ?_) (fun c_128 => ?_)
              · refine ev_iconst (pc := 136) (v := (-1)) dX4_stateBehind_136 (by decide) ?_
                simp only [qs0m128_X4_stateBehind_33, if_pos c_128] at hJ_128
                exact ev_loc hJ_128 cw_le0
              · refine ev_bipush (pc := 131) (v := 8) dX4_stateBehind_131 (by decide) ?_
                refine ev_goto (pc := 133) (tgt := 137) dX4_stateBehind_133 (by decide) ?_
                simp only [qs0m128_X4_stateBehind_33, if_neg c_128] at hJ_128
                exact ev_loc hJ_128 cw_le0
            simp only [qs0m122_X4_stateBehind_33, if_neg c_122] at hJ_122
            exact ev_loc hJ_122 cw_le0
        simp only [qs0m112_X4_stateBehind_33, if_neg c_112] at hJ_112
        exact ev_loc hJ_112 cw_le0
      · refine ev_bipush (pc := 115) (v := 7) dX4_stateBehind_115 (by decide) ?_
        refine ev_goto (pc := 117) (tgt := 137) dX4_stateBehind_117 (by decide) ?_
        simp only [qs0m112_X4_stateBehind_33, if_pos c_112] at hJ_112
        exact ev_loc hJ_112 cw_le0
    exact ev_iret (pc := 137) dX4_stateBehind_137 rfl (by decide) (by decide) (hQ _ _ ⟨rfl, rfl⟩)
  try simp only [if_neg s_4_7] at hQ
  by_cases s_4_8 : (I 33 4) = 8
  · try simp only [if_pos s_4_8] at hQ
    refine ev_tableIn (pc := 4) (tgt := 138) (off := 134) dX4_stateBehind_4 (by rw [s_4_8]; decide) (by rw [s_4_8]; decide) (by rw [s_4_8]; decide) (by decide) ?_
    refine ev_aload_n (pc := 138) dX4_stateBehind_138 rfl ?_
    refine ev_iload_n (pc := 139) dX4_stateBehind_139 rfl ?_
    refine ev_Vi (pc := 140) dX4_stateBehind_140 lk_X4_89 cd_X4_stateBehindUnit ar_X4_stateBehindUnit ⟨by decide, rfl, rfl⟩ (cv_X4_stateBehindUnit_33 g n I A J t x1) (show 33 < 120 by decide) rfl rfl rfl rfl (Nat.le_of_ble_eq_true rfl) ⟨by decide, by decide⟩ ?_
    exact ev_iret (pc := 143) dX4_stateBehind_143 rfl (by decide) (by decide) (hQ _ _ ⟨rfl, rfl⟩)
  try simp only [if_neg s_4_8] at hQ
  refine ev_tableOut (pc := 4) (tgt := 144) dX4_stateBehind_4 (by simp only [← Int32.toInt_inj, Int32.reduceToInt] at s_4_0 s_4_1 s_4_2 s_4_3 s_4_4 s_4_5 s_4_6 s_4_7 s_4_8; omega) (by decide) ?_
  refine ev_aload_n (pc := 144) dX4_stateBehind_144 rfl ?_
  refine ev_iload_n (pc := 145) dX4_stateBehind_145 rfl ?_
  refine ev_Vi (pc := 146) dX4_stateBehind_146 lk_X4_92 cd_X4_stateBehindDays ar_X4_stateBehindDays ⟨by decide, rfl, rfl⟩ (cv_X4_stateBehindDays_33 g n I A J t x1) (show 33 < 120 by decide) rfl rfl rfl rfl (Nat.le_of_ble_eq_true rfl) ⟨by decide, by decide⟩ ?_
  exact ev_iret (pc := 149) dX4_stateBehind_149 rfl (by decide) (by decide) (hQ _ _ ⟨rfl, rfl⟩)

def qs1m4_X4_startRule_33 (n : Nat) (I : Nat → Nat → Int32) (A : Nat → Nat → Int32) (J : Nat → Nat → Int64) (t : Bool × Bool) (x1 : Int32) : Int32 := if x1 = 14 then 1 else 0
def qI12_X4_startRule_33 (n : Nat) (I : Nat → Nat → Int32) (A : Nat → Nat → Int32) (J : Nat → Nat → Int64) (t : Bool × Bool) (x1 : Int32) : Nat → Nat → Int32 := cw_u I 33 7 (qs1m4_X4_startRule_33 n I A J t x1)
def qI17_X4_startRule_33 (n : Nat) (I : Nat → Nat → Int32) (A : Nat → Nat → Int32) (J : Nat → Nat → Int64) (t : Bool × Bool) (x1 : Int32) : Nat → Nat → Int32 := cw_u (qI12_X4_startRule_33 n I A J t x1) 33 8 0
def qI24_X4_startRule_33 (n : Nat) (I : Nat → Nat → Int32) (A : Nat → Nat → Int32) (J : Nat → Nat → Int64) (t : Bool × Bool) (x1 : Int32) : Nat → Nat → Int32 := cw_u (qI17_X4_startRule_33 n I A J t x1) 33 9 10000
def qI29_X4_startRule_33 (n : Nat) (I : Nat → Nat → Int32) (A : Nat → Nat → Int32) (J : Nat → Nat → Int64) (t : Bool × Bool) (x1 : Int32) : Nat → Nat → Int32 := cw_u (qI24_X4_startRule_33 n I A J t x1) 33 5 0
def qI34_X4_startRule_33 (n : Nat) (I : Nat → Nat → Int32) (A : Nat → Nat → Int32) (J : Nat → Nat → Int64) (t : Bool × Bool) (x1 : Int32) : Nat → Nat → Int32 := cw_u (qI29_X4_startRule_33 n I A J t x1) 33 6 0
def pb_X4_startRule_33 (n : Nat) (I : Nat → Nat → Int32) (A : Nat → Nat → Int32) (J : Nat → Nat → Int64) (t : Bool × Bool) (x1 : Int32) : Prop := ((qs1m4_X4_startRule_33 n I A J t x1) = 0 ∨ (qs1m4_X4_startRule_33 n I A J t x1) = 1)
def pI_X4_startRule_33 (n : Nat) (I : Nat → Nat → Int32) (A : Nat → Nat → Int32) (J : Nat → Nat → Int64) (t : Bool × Bool) (x1 : Int32) : Nat → Nat → Int32 := (qI34_X4_startRule_33 n I A J t x1)
set_option maxRecDepth 100000 in
set_option maxHeartbeats 4000000 in
theorem cv_X4_startRule_33 (g : cw_G) (n : Nat) (I : Nat → Nat → Int32) (A : Nat → Nat → Int32) (J : Nat → Nat → Int64) (t : Bool × Bool) (x1 : Int32) (hb : pb_X4_startRule_33 n I A J t x1) : Cd g mX4_startRule [(.ref (cw_z g + 33)), (.int x1)] (hp g I A J t) none (hp g (pI_X4_startRule_33 n I A J t x1) A J t) := by
  unfold pb_X4_startRule_33 at hb
  unfold pI_X4_startRule_33
  refine Cd.of rfl (Nat.le_of_ble_eq_true rfl) (ev_gen (fun Q hQ => ?_))
  refine ev_aload_n (pc := 0) dX4_startRule_0 rfl ?_
  refine ev_iload_n (pc := 1) dX4_startRule_1 rfl ?_
  refine ev_bipush (pc := 2) (v := 14) dX4_startRule_2 (by decide) ?_
  refine ev_cut (pj := 12) (Lj := [some (.ref (cw_z g + 33)), some (.int x1)]) (stj := [(.int (qs1m4_X4_startRule_33 n I A J t x1)), (.ref (cw_z g + 33))]) (σj := hp g I A J t) ?_ (fun hJ_4 => ?_)
  rotate_left
  · refine ev_icmp_ne (pc := 4) (tgt := 11) dX4_startRule_4 (by decide) (fun c_4 => ?_) (fun c_4 => ?_)
    · refine ev_iconst (pc := 11) (v := 0) dX4_startRule_11 (by decide) ?_
      simp only [qs1m4_X4_startRule_33, if_neg c_4] at hJ_4
      exact ev_loc hJ_4 cw_le0
    · refine ev_iconst (pc := 7) (v := 1) dX4_startRule_7 (by decide) ?_
      refine ev_goto (pc := 8) (tgt := 12) dX4_startRule_8 (by decide) ?_
      simp only [qs1m4_X4_startRule_33, if_pos c_4] at hJ_4
      exact ev_loc hJ_4 cw_le0
  refine tw_putz (pc := 12) (I2 := (qI12_X4_startRule_33 n I A J t x1)) dX4_startRule_12 fp_X4_43 (by decide) rfl rfl hb rfl ?_
  refine ev_aload_n (pc := 15) dX4_startRule_15 rfl ?_
  refine ev_iconst (pc := 16) (v := 0) dX4_startRule_16 (by decide) ?_
  refine tw_puti (pc := 17) (I2 := (qI17_X4_startRule_33 n I A J t x1)) dX4_startRule_17 fp_X4_46 (by decide) rfl rfl rfl ?_
  refine ev_aload_n (pc := 20) dX4_startRule_20 rfl ?_
  refine ev_sipush (pc := 21) (v := 10000) dX4_startRule_21 (by decide) ?_
  refine tw_puti (pc := 24) (I2 := (qI24_X4_startRule_33 n I A J t x1)) dX4_startRule_24 fp_X4_49 (by decide) rfl rfl rfl ?_
  refine ev_aload_n (pc := 27) dX4_startRule_27 rfl ?_
  refine ev_iconst (pc := 28) (v := 0) dX4_startRule_28 (by decide) ?_
  refine tw_puti (pc := 29) (I2 := (qI29_X4_startRule_33 n I A J t x1)) dX4_startRule_29 fp_X4_36 (by decide) rfl rfl rfl ?_
  refine ev_aload_n (pc := 32) dX4_startRule_32 rfl ?_
  refine ev_iconst (pc := 33) (v := 0) dX4_startRule_33 (by decide) ?_
  refine tw_putz (pc := 34) (I2 := (qI34_X4_startRule_33 n I A J t x1)) dX4_startRule_34 fp_X4_39 (by decide) rfl rfl (by simp) rfl ?_
  exact ev_vret (pc := 37) dX4_startRule_37 rfl (by decide) (by decide) (hQ _ _ ⟨rfl, rfl⟩)

def qA18_X4_putOff_33 (n : Nat) (I : Nat → Nat → Int32) (A : Nat → Nat → Int32) (J : Nat → Nat → Int64) (t : Bool × Bool) (x1 : Int32) : Nat → Nat → Int32 := cw_u A 36 ((I 33 3)).toNatClampNeg x1
def qI26_X4_putOff_33 (n : Nat) (I : Nat → Nat → Int32) (A : Nat → Nat → Int32) (J : Nat → Nat → Int64) (t : Bool × Bool) (x1 : Int32) : Nat → Nat → Int32 := cw_u I 33 3 ((I 33 3) + 1)
def qIm6_X4_putOff_33 (n : Nat) (I : Nat → Nat → Int32) (A : Nat → Nat → Int32) (J : Nat → Nat → Int64) (t : Bool × Bool) (x1 : Int32) : Nat → Nat → Int32 := if 22 ≤ (I 33 3) then I else (qI26_X4_putOff_33 n I A J t x1)
def qAm6_X4_putOff_33 (n : Nat) (I : Nat → Nat → Int32) (A : Nat → Nat → Int32) (J : Nat → Nat → Int64) (t : Bool × Bool) (x1 : Int32) : Nat → Nat → Int32 := if 22 ≤ (I 33 3) then A else (qA18_X4_putOff_33 n I A J t x1)
def pb_X4_putOff_33 (n : Nat) (I : Nat → Nat → Int32) (A : Nat → Nat → Int32) (J : Nat → Nat → Int64) (t : Bool × Bool) (x1 : Int32) : Prop := (¬ 22 ≤ (I 33 3) → vp_in (I 33 3) 22)
def pI_X4_putOff_33 (n : Nat) (I : Nat → Nat → Int32) (A : Nat → Nat → Int32) (J : Nat → Nat → Int64) (t : Bool × Bool) (x1 : Int32) : Nat → Nat → Int32 := (qIm6_X4_putOff_33 n I A J t x1)
def pA_X4_putOff_33 (n : Nat) (I : Nat → Nat → Int32) (A : Nat → Nat → Int32) (J : Nat → Nat → Int64) (t : Bool × Bool) (x1 : Int32) : Nat → Nat → Int32 := (qAm6_X4_putOff_33 n I A J t x1)
set_option maxRecDepth 100000 in
set_option maxHeartbeats 4000000 in
theorem cv_X4_putOff_33 (g : cw_G) (n : Nat) (I : Nat → Nat → Int32) (A : Nat → Nat → Int32) (J : Nat → Nat → Int64) (t : Bool × Bool) (x1 : Int32) (hb : pb_X4_putOff_33 n I A J t x1) : Cd g mX4_putOff [(.ref (cw_z g + 33)), (.int x1)] (hp g I A J t) none (hp g (pI_X4_putOff_33 n I A J t x1) (pA_X4_putOff_33 n I A J t x1) J t) := by
  unfold pb_X4_putOff_33 at hb
  unfold pI_X4_putOff_33 pA_X4_putOff_33
  refine Cd.of rfl (Nat.le_of_ble_eq_true rfl) (ev_gen (fun Q hQ => ?_))
  refine ev_aload_n (pc := 0) dX4_putOff_0 rfl ?_
  refine tv_geti (pc := 1) dX4_putOff_1 fl_X4_29 (by decide) rfl rfl ?_
  refine ev_bipush (pc := 4) (v := 22) dX4_putOff_4 (by decide) ?_
  have hF_6 := hb
  refine ev_cut (pj := 29) (Lj := [some (.ref (cw_z g + 33)), some (.int x1)]) (stj := []) (σj := hp g (qIm6_X4_putOff_33 n I A J t x1) (qAm6_X4_putOff_33 n I A J t x1) J t) ?_ (fun hJ_6 => ?_)
  rotate_left
  · refine ev_icmp_ge (pc := 6) (tgt := 29) dX4_putOff_6 (by decide) (fun c_6 => ?_) (fun c_6 => ?_)
    · simp only [qIm6_X4_putOff_33, qAm6_X4_putOff_33, if_pos c_6] at hJ_6
      exact ev_loc hJ_6 cw_le0
    · have hb := hF_6 c_6
      refine ev_aload_n (pc := 9) dX4_putOff_9 rfl ?_
      refine tv_getr (pc := 10) (d := 36) dX4_putOff_10 fl_X4_18 (by decide) rfl rfl ?_
      refine ev_aload_n (pc := 13) dX4_putOff_13 rfl ?_
      refine tv_geti (pc := 14) dX4_putOff_14 fl_X4_29 (by decide) rfl rfl ?_
      refine ev_iload_n (pc := 17) dX4_putOff_17 rfl ?_
      refine tw_iast (pc := 18) (A2 := (qA18_X4_putOff_33 n I A J t x1)) dX4_putOff_18 (by decide) rfl hb rfl ?_
      refine ev_aload_n (pc := 19) dX4_putOff_19 rfl ?_
      refine ev_dup (pc := 20) dX4_putOff_20 rfl ?_
      refine tv_geti (pc := 21) dX4_putOff_21 fl_X4_29 (by decide) rfl rfl ?_
      refine ev_iconst (pc := 24) (v := 1) dX4_putOff_24 (by decide) ?_
      refine ev_iadd (pc := 25) dX4_putOff_25 ?_
      refine tw_puti (pc := 26) (I2 := (qI26_X4_putOff_33 n I A J t x1)) dX4_putOff_26 fp_X4_29 (by decide) rfl rfl rfl ?_
      simp only [qIm6_X4_putOff_33, qAm6_X4_putOff_33, if_neg c_6] at hJ_6
      exact ev_loc hJ_6 cw_le0
  exact ev_vret (pc := 29) dX4_putOff_29 rfl (by decide) (by decide) (hQ _ _ ⟨rfl, rfl⟩)

def qI8_X4_takeUntil_33 (n : Nat) (I : Nat → Nat → Int32) (A : Nat → Nat → Int32) (J : Nat → Nat → Int64) (t : Bool × Bool) : Nat → Nat → Int32 := cw_u I 33 9 (I 34 5)
def qI38_X4_takeUntil_33 (n : Nat) (I : Nat → Nat → Int32) (A : Nat → Nat → Int32) (J : Nat → Nat → Int64) (t : Bool × Bool) : Nat → Nat → Int32 := cw_u (qI8_X4_takeUntil_33 n I A J t) 33 10 ((qI8_X4_takeUntil_33 n I A J t) 34 4)
def qIm27_X4_takeUntil_33 (n : Nat) (I : Nat → Nat → Int32) (A : Nat → Nat → Int32) (J : Nat → Nat → Int64) (t : Bool × Bool) : Nat → Nat → Int32 := if ((qI8_X4_takeUntil_33 n I A J t) 33 10) = (-1) then (qI38_X4_takeUntil_33 n I A J t) else (qI8_X4_takeUntil_33 n I A J t)
def qIm19_X4_takeUntil_33 (n : Nat) (I : Nat → Nat → Int32) (A : Nat → Nat → Int32) (J : Nat → Nat → Int64) (t : Bool × Bool) : Nat → Nat → Int32 := if ((qI8_X4_takeUntil_33 n I A J t) 33 8) < ((qI8_X4_takeUntil_33 n I A J t) 33 9) then (qI8_X4_takeUntil_33 n I A J t) else (qIm27_X4_takeUntil_33 n I A J t)
def pI_X4_takeUntil_33 (n : Nat) (I : Nat → Nat → Int32) (A : Nat → Nat → Int32) (J : Nat → Nat → Int64) (t : Bool × Bool) : Nat → Nat → Int32 := (qIm19_X4_takeUntil_33 n I A J t)
set_option maxRecDepth 100000 in
set_option maxHeartbeats 4000000 in
theorem cv_X4_takeUntil_33 (g : cw_G) (n : Nat) (I : Nat → Nat → Int32) (A : Nat → Nat → Int32) (J : Nat → Nat → Int64) (t : Bool × Bool) : Cd g mX4_takeUntil [(.ref (cw_z g + 33))] (hp g I A J t) none (hp g (pI_X4_takeUntil_33 n I A J t) A J t) := by
  unfold pI_X4_takeUntil_33
  refine Cd.of rfl (Nat.le_of_ble_eq_true rfl) (ev_gen (fun Q hQ => ?_))
  refine ev_aload_n (pc := 0) dX4_takeUntil_0 rfl ?_
  refine ev_aload_n (pc := 1) dX4_takeUntil_1 rfl ?_
  refine tv_getr (pc := 2) (d := 34) dX4_takeUntil_2 fl_X4_12 (by decide) rfl rfl ?_
  refine tv_geti (pc := 5) dX4_takeUntil_5 fl_X4_102 (by decide) rfl rfl ?_
  refine tw_puti (pc := 8) (I2 := (qI8_X4_takeUntil_33 n I A J t)) dX4_takeUntil_8 fp_X4_49 (by decide) rfl rfl rfl ?_
  refine ev_aload_n (pc := 11) dX4_takeUntil_11 rfl ?_
  refine tv_geti (pc := 12) dX4_takeUntil_12 fl_X4_49 (by decide) rfl rfl ?_
  refine ev_aload_n (pc := 15) dX4_takeUntil_15 rfl ?_
  refine tv_geti (pc := 16) dX4_takeUntil_16 fl_X4_46 (by decide) rfl rfl ?_
  refine ev_cut (pj := 41) (Lj := [some (.ref (cw_z g + 33))]) (stj := []) (σj := hp g (qIm19_X4_takeUntil_33 n I A J t) A J t) ?_ (fun hJ_19 => ?_)
  rotate_left
  · refine ev_icmp_gt (pc := 19) (tgt := 41) dX4_takeUntil_19 (by decide) (fun c_19 => ?_) (fun c_19 => ?_)
    · simp only [qIm19_X4_takeUntil_33, if_pos c_19] at hJ_19
      exact ev_loc hJ_19 cw_le0
    · refine ev_aload_n (pc := 22) dX4_takeUntil_22 rfl ?_
      refine tv_geti (pc := 23) dX4_takeUntil_23 fl_X4_52 (by decide) rfl rfl ?_
      refine ev_iconst (pc := 26) (v := (-1)) dX4_takeUntil_26 (by decide) ?_
      refine ev_cut (pj := 41) (Lj := [some (.ref (cw_z g + 33))]) (stj := []) (σj := hp g (qIm27_X4_takeUntil_33 n I A J t) A J t) ?_ (fun hJ_27 => ?_)
      rotate_left
      · refine ev_icmp_ne (pc := 27) (tgt := 41) dX4_takeUntil_27 (by decide) (fun c_27 => ?_) (fun c_27 => ?_)
        · simp only [qIm27_X4_takeUntil_33, if_neg c_27] at hJ_27
          exact ev_loc hJ_27 cw_le0
        · refine ev_aload_n (pc := 30) dX4_takeUntil_30 rfl ?_
          refine ev_aload_n (pc := 31) dX4_takeUntil_31 rfl ?_
          refine tv_getr (pc := 32) (d := 34) dX4_takeUntil_32 fl_X4_12 (by decide) rfl rfl ?_
          refine tv_geti (pc := 35) dX4_takeUntil_35 fl_X4_79 (by decide) rfl rfl ?_
          refine tw_puti (pc := 38) (I2 := (qI38_X4_takeUntil_33 n I A J t)) dX4_takeUntil_38 fp_X4_52 (by decide) rfl rfl rfl ?_
          simp only [qIm27_X4_takeUntil_33, if_pos c_27] at hJ_27
          exact ev_loc hJ_27 cw_le0
      simp only [qIm19_X4_takeUntil_33, if_neg c_19] at hJ_19
      exact ev_loc hJ_19 cw_le0
  exact ev_vret (pc := 41) dX4_takeUntil_41 rfl (by decide) (by decide) (hQ _ _ ⟨rfl, rfl⟩)

def qs0m44_X4_faultOf_33_tFx (n : Nat) (I : Nat → Nat → Int32) (A : Nat → Nat → Int32) (J : Nat → Nat → Int64) (t : Bool × Bool) (x1 : Int32) (x2 : Int32) : Int32 := if (I 37 8) < 20 then 0 else 1
def qs0m32_X4_faultOf_33_tFx (n : Nat) (I : Nat → Nat → Int32) (A : Nat → Nat → Int32) (J : Nat → Nat → Int64) (t : Bool × Bool) (x1 : Int32) (x2 : Int32) : Int32 := if (I 33 4) = 0 then (qs0m44_X4_faultOf_33_tFx n I A J t x1 x2) else 0
def qs0m65_X4_faultOf_33_tFx (n : Nat) (I : Nat → Nat → Int32) (A : Nat → Nat → Int32) (J : Nat → Nat → Int64) (t : Bool × Bool) (x1 : Int32) (x2 : Int32) : Int32 := if (I 33 5) < 6 then 0 else 1
def qs0m56_X4_faultOf_33_tFx (n : Nat) (I : Nat → Nat → Int32) (A : Nat → Nat → Int32) (J : Nat → Nat → Int64) (t : Bool × Bool) (x1 : Int32) (x2 : Int32) : Int32 := if x1 = 11 then (qs0m65_X4_faultOf_33_tFx n I A J t x1 x2) else 0
def qs0m88_X4_faultOf_33_tFx (n : Nat) (I : Nat → Nat → Int32) (A : Nat → Nat → Int32) (J : Nat → Nat → Int64) (t : Bool × Bool) (x1 : Int32) (x2 : Int32) : Int32 := if (qs0m56_X4_faultOf_33_tFx n I A J t x1 x2) = 0 then 0 else 2
def qs0m83_X4_faultOf_33_tFx (n : Nat) (I : Nat → Nat → Int32) (A : Nat → Nat → Int32) (J : Nat → Nat → Int64) (t : Bool × Bool) (x1 : Int32) (x2 : Int32) : Int32 := if (qs0m32_X4_faultOf_33_tFx n I A J t x1 x2) = 0 then (qs0m88_X4_faultOf_33_tFx n I A J t x1 x2) else 2
def qs0m79_X4_faultOf_33_tFx (n : Nat) (I : Nat → Nat → Int32) (A : Nat → Nat → Int32) (J : Nat → Nat → Int64) (t : Bool × Bool) (x1 : Int32) (x2 : Int32) : Int32 := if 400 ≤ x2 then 2 else (qs0m83_X4_faultOf_33_tFx n I A J t x1 x2)
def qs0m8_X4_faultOf_33_tFx (n : Nat) (I : Nat → Nat → Int32) (A : Nat → Nat → Int32) (J : Nat → Nat → Int64) (t : Bool × Bool) (x1 : Int32) (x2 : Int32) : Int32 := if (I 33 4) = 0 then 0 else 1
def px_X4_faultOf_33_tFx (n : Nat) (I : Nat → Nat → Int32) (A : Nat → Nat → Int32) (J : Nat → Nat → Int64) (t : Bool × Bool) (x1 : Int32) (x2 : Int32) : Int32 := (if x1 = 0 then (qs0m8_X4_faultOf_33_tFx n I A J t x1 x2) else (if (px_X4_stateBehind_33 n I A J (false, t.2) x1) = (-1) then 1 else (qs0m79_X4_faultOf_33_tFx n I A J t x1 x2)))
set_option maxRecDepth 100000 in
set_option maxHeartbeats 4000000 in
theorem cv_X4_faultOf_33_tFx (g : cw_G) (n : Nat) (I : Nat → Nat → Int32) (A : Nat → Nat → Int32) (J : Nat → Nat → Int64) (t : Bool × Bool) (x1 : Int32) (x2 : Int32) : Cd g mX4_faultOf [(.ref (cw_z g + 33)), (.int x1), (.int x2)] (hp g I A J (false, t.2)) (some (.int (px_X4_faultOf_33_tFx n I A J t x1 x2))) (hp g I A J (false, t.2)) := by
  unfold px_X4_faultOf_33_tFx
  refine Cd.of rfl (Nat.le_of_ble_eq_true rfl) (ev_gen (fun Q hQ => ?_))
  refine ev_iload_n (pc := 0) dX4_faultOf_0 rfl ?_
  refine ev_if_ne (pc := 1) (tgt := 17) dX4_faultOf_1 (by decide) (fun c_1 => ?_) (fun c_1 => ?_)
  · try simp only [if_neg c_1] at hQ
    refine ev_aload_n (pc := 17) dX4_faultOf_17 rfl ?_
    refine ev_iload_n (pc := 18) dX4_faultOf_18 rfl ?_
    refine ev_Vi (pc := 19) dX4_faultOf_19 lk_X4_82 cd_X4_stateBehind ar_X4_stateBehind ⟨by decide, rfl, rfl⟩ (cv_X4_stateBehind_33 g n I A J (false, t.2) x1) (show 33 < 120 by decide) rfl rfl rfl rfl (Nat.le_of_ble_eq_true rfl) ⟨by decide, by decide⟩ ?_
    refine ev_iconst (pc := 22) (v := (-1)) dX4_faultOf_22 (by decide) ?_
    refine ev_icmp_ne (pc := 23) (tgt := 28) dX4_faultOf_23 (by decide) (fun c_23 => ?_) (fun c_23 => ?_)
    · try simp only [if_neg c_23] at hQ
      refine ev_aload_n (pc := 28) dX4_faultOf_28 rfl ?_
      refine tv_geti (pc := 29) dX4_faultOf_29 fl_X4_33 (by decide) rfl rfl ?_
      refine ev_cut (pj := 52) (Lj := [some (.ref (cw_z g + 33)), some (.int x1), some (.int x2), none, none]) (stj := [(.int (qs0m32_X4_faultOf_33_tFx n I A J t x1 x2))]) (σj := hp g I A J (false, t.2)) ?_ (fun hJ_32 => ?_)
      rotate_left
      · refine ev_if_ne (pc := 32) (tgt := 51) dX4_faultOf_32 (by decide) (fun c_32 => ?_) (fun c_32 => ?_)
        · refine ev_iconst (pc := 51) (v := 0) dX4_faultOf_51 (by decide) ?_
          simp only [qs0m32_X4_faultOf_33_tFx, if_neg c_32] at hJ_32
          exact ev_loc hJ_32 cw_le0
        · refine ev_aload_n (pc := 35) dX4_faultOf_35 rfl ?_
          refine tv_getr (pc := 36) (d := 37) dX4_faultOf_36 fl_X4_25 (by decide) rfl rfl ?_
          refine tv_geti (pc := 39) dX4_faultOf_39 fl_X4_86 (by decide) rfl rfl ?_
          refine ev_bipush (pc := 42) (v := 20) dX4_faultOf_42 (by decide) ?_
          refine ev_cut (pj := 52) (Lj := [some (.ref (cw_z g + 33)), some (.int x1), some (.int x2), none, none]) (stj := [(.int (qs0m44_X4_faultOf_33_tFx n I A J t x1 x2))]) (σj := hp g I A J (false, t.2)) ?_ (fun hJ_44 => ?_)
          rotate_left
          · refine ev_icmp_lt (pc := 44) (tgt := 51) dX4_faultOf_44 (by decide) (fun c_44 => ?_) (fun c_44 => ?_)
            · refine ev_iconst (pc := 51) (v := 0) dX4_faultOf_51 (by decide) ?_
              simp only [qs0m44_X4_faultOf_33_tFx, if_pos c_44] at hJ_44
              exact ev_loc hJ_44 cw_le0
            · refine ev_iconst (pc := 47) (v := 1) dX4_faultOf_47 (by decide) ?_
              refine ev_goto (pc := 48) (tgt := 52) dX4_faultOf_48 (by decide) ?_
              simp only [qs0m44_X4_faultOf_33_tFx, if_neg c_44] at hJ_44
              exact ev_loc hJ_44 cw_le0
          simp only [qs0m32_X4_faultOf_33_tFx, if_pos c_32] at hJ_32
          exact ev_loc hJ_32 cw_le0
      refine ev_istore_3 (pc := 52) dX4_faultOf_52 (by decide) rfl ?_
      refine ev_iload_n (pc := 53) dX4_faultOf_53 rfl ?_
      refine ev_bipush (pc := 54) (v := 11) dX4_faultOf_54 (by decide) ?_
      refine ev_cut (pj := 73) (Lj := [some (.ref (cw_z g + 33)), some (.int x1), some (.int x2), some (.int (qs0m32_X4_faultOf_33_tFx n I A J t x1 x2)), none]) (stj := [(.int (qs0m56_X4_faultOf_33_tFx n I A J t x1 x2))]) (σj := hp g I A J (false, t.2)) ?_ (fun hJ_56 => ?_)
      rotate_left
      · refine ev_icmp_ne (pc := 56) (tgt := 72) dX4_faultOf_56 (by decide) (fun c_56 => ?_) (fun c_56 => ?_)
        · refine ev_iconst (pc := 72) (v := 0) dX4_faultOf_72 (by decide) ?_
          simp only [qs0m56_X4_faultOf_33_tFx, if_neg c_56] at hJ_56
          exact ev_loc hJ_56 cw_le0
        · refine ev_aload_n (pc := 59) dX4_faultOf_59 rfl ?_
          refine tv_geti (pc := 60) dX4_faultOf_60 fl_X4_36 (by decide) rfl rfl ?_
          refine ev_bipush (pc := 63) (v := 6) dX4_faultOf_63 (by decide) ?_
          refine ev_cut (pj := 73) (Lj := [some (.ref (cw_z g + 33)), some (.int x1), some (.int x2), some (.int (qs0m32_X4_faultOf_33_tFx n I A J t x1 x2)), none]) (stj := [(.int (qs0m65_X4_faultOf_33_tFx n I A J t x1 x2))]) (σj := hp g I A J (false, t.2)) ?_ (fun hJ_65 => ?_)
          rotate_left
          · refine ev_icmp_lt (pc := 65) (tgt := 72) dX4_faultOf_65 (by decide) (fun c_65 => ?_) (fun c_65 => ?_)
            · refine ev_iconst (pc := 72) (v := 0) dX4_faultOf_72 (by decide) ?_
              simp only [qs0m65_X4_faultOf_33_tFx, if_pos c_65] at hJ_65
              exact ev_loc hJ_65 cw_le0
            · refine ev_iconst (pc := 68) (v := 1) dX4_faultOf_68 (by decide) ?_
              refine ev_goto (pc := 69) (tgt := 73) dX4_faultOf_69 (by decide) ?_
              simp only [qs0m65_X4_faultOf_33_tFx, if_neg c_65] at hJ_65
              exact ev_loc hJ_65 cw_le0
          simp only [qs0m56_X4_faultOf_33_tFx, if_pos c_56] at hJ_56
          exact ev_loc hJ_56 cw_le0
      refine ev_istore_4 (pc := 73) dX4_faultOf_73 (by decide) rfl ?_
      refine ev_iload_n (pc := 75) dX4_faultOf_75 rfl ?_
      refine ev_sipush (pc := 76) (v := 400) dX4_faultOf_76 (by decide) ?_
      refine ev_cut (pj := 96) (Lj := [some (.ref (cw_z g + 33)), some (.int x1), some (.int x2), some (.int (qs0m32_X4_faultOf_33_tFx n I A J t x1 x2)), some (.int (qs0m56_X4_faultOf_33_tFx n I A J t x1 x2))]) (stj := [(.int (qs0m79_X4_faultOf_33_tFx n I A J t x1 x2))]) (σj := hp g I A J (false, t.2)) ?_ (fun hJ_79 => ?_)
      rotate_left
      · refine ev_icmp_ge (pc := 79) (tgt := 91) dX4_faultOf_79 (by decide) (fun c_79 => ?_) (fun c_79 => ?_)
        · refine ev_iconst (pc := 91) (v := 2) dX4_faultOf_91 (by decide) ?_
          refine ev_goto (pc := 92) (tgt := 96) dX4_faultOf_92 (by decide) ?_
          simp only [qs0m79_X4_faultOf_33_tFx, if_pos c_79] at hJ_79
          exact ev_loc hJ_79 cw_le0
        · refine ev_iload_n (pc := 82) dX4_faultOf_82 rfl ?_
          refine ev_cut (pj := 96) (Lj := [some (.ref (cw_z g + 33)), some (.int x1), some (.int x2), some (.int (qs0m32_X4_faultOf_33_tFx n I A J t x1 x2)), some (.int (qs0m56_X4_faultOf_33_tFx n I A J t x1 x2))]) (stj := [(.int (qs0m83_X4_faultOf_33_tFx n I A J t x1 x2))]) (σj := hp g I A J (false, t.2)) ?_ (fun hJ_83 => ?_)
          rotate_left
          · refine ev_if_ne (pc := 83) (tgt := 91) dX4_faultOf_83 (by decide) (fun c_83 => ?_) (fun c_83 => ?_)
            · refine ev_iconst (pc := 91) (v := 2) dX4_faultOf_91 (by decide) ?_
              refine ev_goto (pc := 92) (tgt := 96) dX4_faultOf_92 (by decide) ?_
              simp only [qs0m83_X4_faultOf_33_tFx, if_neg c_83] at hJ_83
              exact ev_loc hJ_83 cw_le0
            · refine ev_iload (pc := 86) dX4_faultOf_86 rfl ?_
              refine ev_cut (pj := 96) (Lj := [some (.ref (cw_z g + 33)), some (.int x1), some (.int x2), some (.int (qs0m32_X4_faultOf_33_tFx n I A J t x1 x2)), some (.int (qs0m56_X4_faultOf_33_tFx n I A J t x1 x2))]) (stj := [(.int (qs0m88_X4_faultOf_33_tFx n I A J t x1 x2))]) (σj := hp g I A J (false, t.2)) ?_ (fun hJ_88 => ?_)
              rotate_left
              · refine ev_if_eq (pc := 88) (tgt := 95) dX4_faultOf_88 (by decide) (fun c_88 => ?_) (fun c_88 => ?_)
                · refine ev_iconst (pc := 95) (v := 0) dX4_faultOf_95 (by decide) ?_
                  simp only [qs0m88_X4_faultOf_33_tFx, if_pos c_88] at hJ_88
                  exact ev_loc hJ_88 cw_le0
                · refine ev_iconst (pc := 91) (v := 2) dX4_faultOf_91 (by decide) ?_
                  refine ev_goto (pc := 92) (tgt := 96) dX4_faultOf_92 (by decide) ?_
                  simp only [qs0m88_X4_faultOf_33_tFx, if_neg c_88] at hJ_88
                  exact ev_loc hJ_88 cw_le0
              simp only [qs0m83_X4_faultOf_33_tFx, if_pos c_83] at hJ_83
              exact ev_loc hJ_83 cw_le0
          simp only [qs0m79_X4_faultOf_33_tFx, if_neg c_79] at hJ_79
          exact ev_loc hJ_79 cw_le0
      exact ev_iret (pc := 96) dX4_faultOf_96 rfl (by decide) (by decide) (hQ _ _ ⟨rfl, rfl⟩)
    · try simp only [if_pos c_23] at hQ
      refine ev_iconst (pc := 26) (v := 1) dX4_faultOf_26 (by decide) ?_
      exact ev_iret (pc := 27) dX4_faultOf_27 rfl (by decide) (by decide) (hQ _ _ ⟨rfl, rfl⟩)
  · try simp only [if_pos c_1] at hQ
    refine ev_aload_n (pc := 4) dX4_faultOf_4 rfl ?_
    refine tv_geti (pc := 5) dX4_faultOf_5 fl_X4_33 (by decide) rfl rfl ?_
    refine ev_cut (pj := 16) (Lj := [some (.ref (cw_z g + 33)), some (.int x1), some (.int x2), none, none]) (stj := [(.int (qs0m8_X4_faultOf_33_tFx n I A J t x1 x2))]) (σj := hp g I A J (false, t.2)) ?_ (fun hJ_8 => ?_)
    rotate_left
    · refine ev_if_ne (pc := 8) (tgt := 15) dX4_faultOf_8 (by decide) (fun c_8 => ?_) (fun c_8 => ?_)
      · refine ev_iconst (pc := 15) (v := 1) dX4_faultOf_15 (by decide) ?_
        simp only [qs0m8_X4_faultOf_33_tFx, if_neg c_8] at hJ_8
        exact ev_loc hJ_8 cw_le0
      · refine ev_iconst (pc := 11) (v := 0) dX4_faultOf_11 (by decide) ?_
        refine ev_goto (pc := 12) (tgt := 16) dX4_faultOf_12 (by decide) ?_
        simp only [qs0m8_X4_faultOf_33_tFx, if_pos c_8] at hJ_8
        exact ev_loc hJ_8 cw_le0
    exact ev_iret (pc := 16) dX4_faultOf_16 rfl (by decide) (by decide) (hQ _ _ ⟨rfl, rfl⟩)

def qI13_X4_takeUnit_33_tFx (n : Nat) (I : Nat → Nat → Int32) (A : Nat → Nat → Int32) (J : Nat → Nat → Int64) (t : Bool × Bool) (x1 : Int32) : Nat → Nat → Int32 := cw_u I 33 5 ((I 33 5) + 1)
def qIm3_X4_takeUnit_33_tFx (n : Nat) (I : Nat → Nat → Int32) (A : Nat → Nat → Int32) (J : Nat → Nat → Int64) (t : Bool × Bool) (x1 : Int32) : Nat → Nat → Int32 := if x1 = 11 then (pI_X4_putOff_33 n (qI13_X4_takeUnit_33_tFx n I A J t x1) A J (false, t.2) 11) else (pI_X10_addStep_37 n I A J (false, t.2) x1 (I 34 5))
def qAm3_X4_takeUnit_33_tFx (n : Nat) (I : Nat → Nat → Int32) (A : Nat → Nat → Int32) (J : Nat → Nat → Int64) (t : Bool × Bool) (x1 : Int32) : Nat → Nat → Int32 := if x1 = 11 then (pA_X4_putOff_33 n (qI13_X4_takeUnit_33_tFx n I A J t x1) A J (false, t.2) 11) else (pA_X10_addStep_37 n I A J (false, t.2) x1 (I 34 5))
def pb_X4_takeUnit_33_tFx (n : Nat) (I : Nat → Nat → Int32) (A : Nat → Nat → Int32) (J : Nat → Nat → Int64) (t : Bool × Bool) (x1 : Int32) : Prop := (¬ x1 = 11 → pb_X10_addStep_37 n I A J (false, t.2) x1 (I 34 5)) ∧ (x1 = 11 → pb_X4_putOff_33 n (qI13_X4_takeUnit_33_tFx n I A J t x1) A J (false, t.2) 11)
def pI_X4_takeUnit_33_tFx (n : Nat) (I : Nat → Nat → Int32) (A : Nat → Nat → Int32) (J : Nat → Nat → Int64) (t : Bool × Bool) (x1 : Int32) : Nat → Nat → Int32 := (qIm3_X4_takeUnit_33_tFx n I A J t x1)
def pA_X4_takeUnit_33_tFx (n : Nat) (I : Nat → Nat → Int32) (A : Nat → Nat → Int32) (J : Nat → Nat → Int64) (t : Bool × Bool) (x1 : Int32) : Nat → Nat → Int32 := (qAm3_X4_takeUnit_33_tFx n I A J t x1)
set_option maxRecDepth 100000 in
set_option maxHeartbeats 4000000 in
theorem cv_X4_takeUnit_33_tFx (g : cw_G) (n : Nat) (I : Nat → Nat → Int32) (A : Nat → Nat → Int32) (J : Nat → Nat → Int64) (t : Bool × Bool) (x1 : Int32) (hb : pb_X4_takeUnit_33_tFx n I A J t x1) : Cd g mX4_takeUnit [(.ref (cw_z g + 33)), (.int x1)] (hp g I A J (false, t.2)) none (hp g (pI_X4_takeUnit_33_tFx n I A J t x1) (pA_X4_takeUnit_33_tFx n I A J t x1) J (false, t.2)) := by
  unfold pb_X4_takeUnit_33_tFx at hb
  unfold pI_X4_takeUnit_33_tFx pA_X4_takeUnit_33_tFx
  refine Cd.of rfl (Nat.le_of_ble_eq_true rfl) (ev_gen (fun Q hQ => ?_))
  refine ev_iload_n (pc := 0) dX4_takeUnit_0 rfl ?_
  refine ev_bipush (pc := 1) (v := 11) dX4_takeUnit_1 (by decide) ?_
  obtain ⟨hT_3, hF_3⟩ := hb
  refine ev_cut (pj := 40) (Lj := [some (.ref (cw_z g + 33)), some (.int x1)]) (stj := []) (σj := hp g (qIm3_X4_takeUnit_33_tFx n I A J t x1) (qAm3_X4_takeUnit_33_tFx n I A J t x1) J (false, t.2)) ?_ (fun hJ_3 => ?_)
  rotate_left
  · refine ev_icmp_ne (pc := 3) (tgt := 25) dX4_takeUnit_3 (by decide) (fun c_3 => ?_) (fun c_3 => ?_)
    · have hb := hT_3 c_3
      refine ev_aload_n (pc := 25) dX4_takeUnit_25 rfl ?_
      refine tv_getr (pc := 26) (d := 37) dX4_takeUnit_26 fl_X4_25 (by decide) rfl rfl ?_
      refine ev_iload_n (pc := 29) dX4_takeUnit_29 rfl ?_
      refine ev_aload_n (pc := 30) dX4_takeUnit_30 rfl ?_
      refine tv_getr (pc := 31) (d := 34) dX4_takeUnit_31 fl_X4_12 (by decide) rfl rfl ?_
      refine tv_geti (pc := 34) dX4_takeUnit_34 fl_X4_102 (by decide) rfl rfl ?_
      refine ev_Vv (pc := 37) dX4_takeUnit_37 lk_X4_121 cd_X10_addStep ar_X10_addStep ⟨by decide, rfl, rfl⟩ (cv_X10_addStep_37 g n I A J (false, t.2) x1 (I 34 5) hb) (show 37 < 120 by decide) rfl rfl rfl rfl (Nat.le_of_ble_eq_true rfl) ⟨by decide, by decide⟩ ?_
      simp only [qIm3_X4_takeUnit_33_tFx, qAm3_X4_takeUnit_33_tFx, if_neg c_3] at hJ_3
      exact ev_loc hJ_3 cw_le0
    · have hb := hF_3 c_3
      refine ev_aload_n (pc := 6) dX4_takeUnit_6 rfl ?_
      refine ev_dup (pc := 7) dX4_takeUnit_7 rfl ?_
      refine tv_geti (pc := 8) dX4_takeUnit_8 fl_X4_36 (by decide) rfl rfl ?_
      refine ev_iconst (pc := 11) (v := 1) dX4_takeUnit_11 (by decide) ?_
      refine ev_iadd (pc := 12) dX4_takeUnit_12 ?_
      refine tw_puti (pc := 13) (I2 := (qI13_X4_takeUnit_33_tFx n I A J t x1)) dX4_takeUnit_13 fp_X4_36 (by decide) rfl rfl rfl ?_
      refine ev_aload_n (pc := 16) dX4_takeUnit_16 rfl ?_
      refine ev_bipush (pc := 17) (v := 11) dX4_takeUnit_17 (by decide) ?_
      refine ev_Vv (pc := 19) dX4_takeUnit_19 lk_X4_118 cd_X4_putOff ar_X4_putOff ⟨by decide, rfl, rfl⟩ (cv_X4_putOff_33 g n (qI13_X4_takeUnit_33_tFx n I A J t x1) A J (false, t.2) 11 hb) (show 33 < 120 by decide) rfl rfl rfl rfl (Nat.le_of_ble_eq_true rfl) ⟨by decide, by decide⟩ ?_
      refine ev_goto (pc := 22) (tgt := 40) dX4_takeUnit_22 (by decide) ?_
      simp only [qIm3_X4_takeUnit_33_tFx, qAm3_X4_takeUnit_33_tFx, if_pos c_3] at hJ_3
      exact ev_loc hJ_3 cw_le0
  exact ev_vret (pc := 40) dX4_takeUnit_40 rfl (by decide) (by decide) (hQ _ _ ⟨rfl, rfl⟩)

def q8_X4_release_33_tFx (n : Nat) (I : Nat → Nat → Int32) (A : Nat → Nat → Int32) (J : Nat → Nat → Int64) (t : Bool × Bool) (x1 : Int32) : Int32 := (px_J9_max_7cf53 n I A J (false, t.2) (px_X4_rank n I A J (false, t.2) x1) 1)
def q15_X4_release_33_tFx (n : Nat) (I : Nat → Nat → Int32) (A : Nat → Nat → Int32) (J : Nat → Nat → Int64) (t : Bool × Bool) (x1 : Int32) : Int32 := ((I 33 3) - 1)
def qI49_X4_release_33_tFx (n : Nat) (I : Nat → Nat → Int32) (A : Nat → Nat → Int32) (J : Nat → Nat → Int64) (t : Bool × Bool) (x1 : Int32) (I16 : Nat → Nat → Int32) (A16 : Nat → Nat → Int32) (v16_3 : Int32) : Nat → Nat → Int32 := cw_u (pI_X10_addStep_37 n I16 A16 J (false, t.2) (A16 36 (v16_3).toNatClampNeg) 0) 33 3 v16_3
def q52_X4_release_33_tFx (n : Nat) (I : Nat → Nat → Int32) (A : Nat → Nat → Int32) (J : Nat → Nat → Int64) (t : Bool × Bool) (x1 : Int32) (I16 : Nat → Nat → Int32) (A16 : Nat → Nat → Int32) (v16_3 : Int32) : Int32 := v16_3 + (-1)
def lp_X4_release_33_tFx_16 (n : Nat) (I : Nat → Nat → Int32) (A : Nat → Nat → Int32) (J : Nat → Nat → Int64) (t : Bool × Bool) (x1 : Int32) : Nat → (Nat → Nat → Int32) → (Nat → Nat → Int32) → (Int32) → (Nat → Nat → Int32) × (Nat → Nat → Int32) × Int32
  | 0, I16, A16, v16_3 => (I16, A16, v16_3)
  | f + 1, I16, A16, v16_3 => if v16_3 < 0 then (I16, A16, v16_3) else if (px_X4_rank n I16 A16 J (false, t.2) (A16 36 (v16_3).toNatClampNeg)) < (q8_X4_release_33_tFx n I A J t x1) then (I16, A16, v16_3) else lp_X4_release_33_tFx_16 n I A J t x1 f (qI49_X4_release_33_tFx n I A J t x1 I16 A16 v16_3) (pA_X10_addStep_37 n I16 A16 J (false, t.2) (A16 36 (v16_3).toNatClampNeg) 0) (q52_X4_release_33_tFx n I A J t x1 I16 A16 v16_3)
def lb_X4_release_33_tFx_16 (n : Nat) (I : Nat → Nat → Int32) (A : Nat → Nat → Int32) (J : Nat → Nat → Int64) (t : Bool × Bool) (x1 : Int32) : Nat → (Nat → Nat → Int32) → (Nat → Nat → Int32) → (Int32) → Prop
  | 0, _, _, _ => False
  | f + 1, I16, A16, v16_3 => (¬ v16_3 < 0 → vp_in v16_3 22 ∧ (¬ (px_X4_rank n I16 A16 J (false, t.2) (A16 36 (v16_3).toNatClampNeg)) < (q8_X4_release_33_tFx n I A J t x1) → vp_in v16_3 22 ∧ pb_X10_addStep_37 n I16 A16 J (false, t.2) (A16 36 (v16_3).toNatClampNeg) 0 ∧ lb_X4_release_33_tFx_16 n I A J t x1 f (qI49_X4_release_33_tFx n I A J t x1 I16 A16 v16_3) (pA_X10_addStep_37 n I16 A16 J (false, t.2) (A16 36 (v16_3).toNatClampNeg) 0) (q52_X4_release_33_tFx n I A J t x1 I16 A16 v16_3)))
def qIw16_X4_release_33_tFx (n : Nat) (I : Nat → Nat → Int32) (A : Nat → Nat → Int32) (J : Nat → Nat → Int64) (t : Bool × Bool) (x1 : Int32) : Nat → Nat → Int32 := (lp_X4_release_33_tFx_16 n I A J t x1 n I A (q15_X4_release_33_tFx n I A J t x1)).1
def qAw16_X4_release_33_tFx (n : Nat) (I : Nat → Nat → Int32) (A : Nat → Nat → Int32) (J : Nat → Nat → Int64) (t : Bool × Bool) (x1 : Int32) : Nat → Nat → Int32 := (lp_X4_release_33_tFx_16 n I A J t x1 n I A (q15_X4_release_33_tFx n I A J t x1)).2.1
def q3w16_X4_release_33_tFx (n : Nat) (I : Nat → Nat → Int32) (A : Nat → Nat → Int32) (J : Nat → Nat → Int64) (t : Bool × Bool) (x1 : Int32) : Int32 := (lp_X4_release_33_tFx_16 n I A J t x1 n I A (q15_X4_release_33_tFx n I A J t x1)).2.2
def pb_X4_release_33_tFx (n : Nat) (I : Nat → Nat → Int32) (A : Nat → Nat → Int32) (J : Nat → Nat → Int64) (t : Bool × Bool) (x1 : Int32) : Prop := lb_X4_release_33_tFx_16 n I A J t x1 n I A (q15_X4_release_33_tFx n I A J t x1)
def pI_X4_release_33_tFx (n : Nat) (I : Nat → Nat → Int32) (A : Nat → Nat → Int32) (J : Nat → Nat → Int64) (t : Bool × Bool) (x1 : Int32) : Nat → Nat → Int32 := (qIw16_X4_release_33_tFx n I A J t x1)
def pA_X4_release_33_tFx (n : Nat) (I : Nat → Nat → Int32) (A : Nat → Nat → Int32) (J : Nat → Nat → Int64) (t : Bool × Bool) (x1 : Int32) : Nat → Nat → Int32 := (qAw16_X4_release_33_tFx n I A J t x1)
set_option maxRecDepth 100000 in
set_option maxHeartbeats 4000000 in
theorem lt_X4_release_33_tFx_16 (g : cw_G) (n : Nat) (I : Nat → Nat → Int32) (A : Nat → Nat → Int32) (J : Nat → Nat → Int64) (t : Bool × Bool) (x1 : Int32) {Q : Option Value → cw_H → Prop} : ∀ (f : Nat) (I16 : Nat → Nat → Int32) (A16 : Nat → Nat → Int32) (v16_3 : Int32) (w0 : Nat → Nat → Int32) (w1 : Nat → Nat → Int32) (w2 : Int32), lb_X4_release_33_tFx_16 n I A J t x1 f I16 A16 v16_3 → (lp_X4_release_33_tFx_16 n I A J t x1 f I16 A16 v16_3).1 = w0 → (lp_X4_release_33_tFx_16 n I A J t x1 f I16 A16 v16_3).2.1 = w1 → (lp_X4_release_33_tFx_16 n I A J t x1 f I16 A16 v16_3).2.2 = w2 → Ev g mX4_release 0 0 58 [some (.ref (cw_z g + 33)), some (.int x1), some (.int (q8_X4_release_33_tFx n I A J t x1)), some (.int w2)] [] (hp g w0 w1 J (false, t.2)) Q → Ev g mX4_release 0 0 16 [some (.ref (cw_z g + 33)), some (.int x1), some (.int (q8_X4_release_33_tFx n I A J t x1)), some (.int v16_3)] [] (hp g I16 A16 J (false, t.2)) Q := by
  intro f
  induction f with
  | zero =>
    intro I16 A16 v16_3 w0 w1 w2 hb
    exact hb.elim
  | succ f ih =>
    intro I16 A16 v16_3 w0 w1 w2 hb h0 h1 h2 hE
    rw [lb_X4_release_33_tFx_16] at hb
    rw [lp_X4_release_33_tFx_16] at h0 h1 h2
    refine ev_iload_n (pc := 16) dX4_release_16 rfl ?_
    have hF_17 := hb
    refine ev_if_lt (pc := 17) (tgt := 58) dX4_release_17 (by decide) (fun c_17 => ?_) (fun c_17 => ?_)
    · try simp only [if_pos c_17] at h0
      try simp only [if_pos c_17] at h1
      try simp only [if_pos c_17] at h2
      subst h0
      subst h1
      subst h2
      exact ev_loc hE cw_le0
    · have hb := hF_17 c_17
      try simp only [if_neg c_17] at h0
      try simp only [if_neg c_17] at h1
      try simp only [if_neg c_17] at h2
      refine ev_aload_n (pc := 20) dX4_release_20 rfl ?_
      refine tv_getr (pc := 21) (d := 36) dX4_release_21 fl_X4_18 (by decide) rfl rfl ?_
      refine ev_iload_n (pc := 24) dX4_release_24 rfl ?_
      refine ev_iald (pc := 25) dX4_release_25 (by decide) rfl hb.1 ?_
      replace hb := hb.2
      refine ev_Si (pc := 26) dX4_release_26 lk_X4_133 cd_X4_rank ar_X4_rank ⟨by decide, rfl, rfl⟩ (cv_X4_rank g n I16 A16 J (false, t.2) (A16 36 (v16_3).toNatClampNeg)) rfl rfl (Nat.le_of_ble_eq_true rfl) ⟨by decide, by decide⟩ ?_
      refine ev_iload_n (pc := 29) dX4_release_29 rfl ?_
      have hF_30 := hb
      refine ev_icmp_lt (pc := 30) (tgt := 58) dX4_release_30 (by decide) (fun c_30 => ?_) (fun c_30 => ?_)
      · try simp only [if_pos c_30] at h0
        try simp only [if_pos c_30] at h1
        try simp only [if_pos c_30] at h2
        subst h0
        subst h1
        subst h2
        exact ev_loc hE cw_le0
      · have hb := hF_30 c_30
        try simp only [if_neg c_30] at h0
        try simp only [if_neg c_30] at h1
        try simp only [if_neg c_30] at h2
        refine ev_aload_n (pc := 33) dX4_release_33 rfl ?_
        refine tv_getr (pc := 34) (d := 37) dX4_release_34 fl_X4_25 (by decide) rfl rfl ?_
        refine ev_aload_n (pc := 37) dX4_release_37 rfl ?_
        refine tv_getr (pc := 38) (d := 36) dX4_release_38 fl_X4_18 (by decide) rfl rfl ?_
        refine ev_iload_n (pc := 41) dX4_release_41 rfl ?_
        refine ev_iald (pc := 42) dX4_release_42 (by decide) rfl hb.1 ?_
        replace hb := hb.2
        refine ev_iconst (pc := 43) (v := 0) dX4_release_43 (by decide) ?_
        refine ev_Vv (pc := 44) dX4_release_44 lk_X4_121 cd_X10_addStep ar_X10_addStep ⟨by decide, rfl, rfl⟩ (cv_X10_addStep_37 g n I16 A16 J (false, t.2) (A16 36 (v16_3).toNatClampNeg) 0 hb.1) (show 37 < 120 by decide) rfl rfl rfl rfl (Nat.le_of_ble_eq_true rfl) ⟨by decide, by decide⟩ ?_
        replace hb := hb.2
        refine ev_aload_n (pc := 47) dX4_release_47 rfl ?_
        refine ev_iload_n (pc := 48) dX4_release_48 rfl ?_
        refine tw_puti (pc := 49) (I2 := (qI49_X4_release_33_tFx n I A J t x1 I16 A16 v16_3)) dX4_release_49 fp_X4_29 (by decide) rfl rfl rfl ?_
        refine ev_iinc_3 (pc := 52) (v := (q52_X4_release_33_tFx n I A J t x1 I16 A16 v16_3)) dX4_release_52 (by decide) rfl rfl ?_
        refine ev_goto (pc := 55) (tgt := 16) dX4_release_55 (by decide) ?_
        exact ev_loc (ih (qI49_X4_release_33_tFx n I A J t x1 I16 A16 v16_3) (pA_X10_addStep_37 n I16 A16 J (false, t.2) (A16 36 (v16_3).toNatClampNeg) 0) (q52_X4_release_33_tFx n I A J t x1 I16 A16 v16_3) w0 w1 w2 hb h0 h1 h2 hE) cw_le0

set_option maxRecDepth 100000 in
set_option maxHeartbeats 4000000 in
theorem cv_X4_release_33_tFx (g : cw_G) (n : Nat) (I : Nat → Nat → Int32) (A : Nat → Nat → Int32) (J : Nat → Nat → Int64) (t : Bool × Bool) (x1 : Int32) (hb : pb_X4_release_33_tFx n I A J t x1) : Cd g mX4_release [(.ref (cw_z g + 33)), (.int x1)] (hp g I A J (false, t.2)) none (hp g (pI_X4_release_33_tFx n I A J t x1) (pA_X4_release_33_tFx n I A J t x1) J (false, t.2)) := by
  unfold pb_X4_release_33_tFx at hb
  unfold pI_X4_release_33_tFx pA_X4_release_33_tFx
  refine Cd.of rfl (Nat.le_of_ble_eq_true rfl) (ev_gen (fun Q hQ => ?_))
  refine ev_iload_n (pc := 0) dX4_release_0 rfl ?_
  refine ev_Si (pc := 1) dX4_release_1 lk_X4_133 cd_X4_rank ar_X4_rank ⟨by decide, rfl, rfl⟩ (cv_X4_rank g n I A J (false, t.2) x1) rfl rfl (Nat.le_of_ble_eq_true rfl) ⟨by decide, by decide⟩ ?_
  refine ev_iconst (pc := 4) (v := 1) dX4_release_4 (by decide) ?_
  refine ev_Si (pc := 5) dX4_release_5 lk_X4_128 cd_J9_max_7cf53 ar_J9_max_7cf53 ⟨by decide, rfl, rfl⟩ (cv_J9_max_7cf53 g n I A J (false, t.2) (px_X4_rank n I A J (false, t.2) x1) 1) rfl rfl (Nat.le_of_ble_eq_true rfl) ⟨by decide, by decide⟩ ?_
  refine ev_is (y := (q8_X4_release_33_tFx n I A J t x1)) rfl ?_
  refine ev_istore_2 (pc := 8) dX4_release_8 (by decide) rfl ?_
  refine ev_aload_n (pc := 9) dX4_release_9 rfl ?_
  refine tv_geti (pc := 10) dX4_release_10 fl_X4_29 (by decide) rfl rfl ?_
  refine ev_iconst (pc := 13) (v := 1) dX4_release_13 (by decide) ?_
  refine ev_isub (pc := 14) dX4_release_14 ?_
  refine ev_is (y := (q15_X4_release_33_tFx n I A J t x1)) rfl ?_
  refine ev_istore_3 (pc := 15) dX4_release_15 (by decide) rfl ?_
  refine lt_X4_release_33_tFx_16 g n I A J t x1 n I A (q15_X4_release_33_tFx n I A J t x1) (qIw16_X4_release_33_tFx n I A J t x1) (qAw16_X4_release_33_tFx n I A J t x1) (q3w16_X4_release_33_tFx n I A J t x1) hb rfl rfl rfl ?_
  exact ev_vret (pc := 58) dX4_release_58 rfl (by decide) (by decide) (hQ _ _ ⟨rfl, rfl⟩)

def qs1m69_X4_takeSign_33_tFx (n : Nat) (I : Nat → Nat → Int32) (A : Nat → Nat → Int32) (J : Nat → Nat → Int64) (t : Bool × Bool) (x1 : Int32) : Int32 := if (px_X4_isRelation n (pI_X4_release_33_tFx n I A J (false, t.2) x1) (pA_X4_release_33_tFx n I A J (false, t.2) x1) J (false, t.2) x1) = 0 then 0 else 1
def qs1m62_X4_takeSign_33_tFx (n : Nat) (I : Nat → Nat → Int32) (A : Nat → Nat → Int32) (J : Nat → Nat → Int64) (t : Bool × Bool) (x1 : Int32) : Int32 := if ((pI_X4_release_33_tFx n I A J (false, t.2) x1) 33 6) = 0 then (qs1m69_X4_takeSign_33_tFx n I A J t x1) else 1
def qI77_X4_takeSign_33_tFx (n : Nat) (I : Nat → Nat → Int32) (A : Nat → Nat → Int32) (J : Nat → Nat → Int64) (t : Bool × Bool) (x1 : Int32) : Nat → Nat → Int32 := cw_u (pI_X4_release_33_tFx n I A J (false, t.2) x1) 33 6 (qs1m62_X4_takeSign_33_tFx n I A J t x1)
def qIm54_X4_takeSign_33_tFx (n : Nat) (I : Nat → Nat → Int32) (A : Nat → Nat → Int32) (J : Nat → Nat → Int64) (t : Bool × Bool) (x1 : Int32) : Nat → Nat → Int32 := if x1 = 3 then (pI_X4_release_33_tFx n I A J (false, t.2) x1) else (pI_X4_putOff_33 n (qI77_X4_takeSign_33_tFx n I A J t x1) (pA_X4_release_33_tFx n I A J (false, t.2) x1) J (false, t.2) x1)
def qAm54_X4_takeSign_33_tFx (n : Nat) (I : Nat → Nat → Int32) (A : Nat → Nat → Int32) (J : Nat → Nat → Int64) (t : Bool × Bool) (x1 : Int32) : Nat → Nat → Int32 := if x1 = 3 then (pA_X4_release_33_tFx n I A J (false, t.2) x1) else (pA_X4_putOff_33 n (qI77_X4_takeSign_33_tFx n I A J t x1) (pA_X4_release_33_tFx n I A J (false, t.2) x1) J (false, t.2) x1)
def qI46_X4_takeSign_33_tFx (n : Nat) (I : Nat → Nat → Int32) (A : Nat → Nat → Int32) (J : Nat → Nat → Int64) (t : Bool × Bool) (x1 : Int32) : Nat → Nat → Int32 := cw_u (pI_X4_release_33_tFx n I A J (false, t.2) x1) 33 6 0
def qIm41_X4_takeSign_33_tFx (n : Nat) (I : Nat → Nat → Int32) (A : Nat → Nat → Int32) (J : Nat → Nat → Int64) (t : Bool × Bool) (x1 : Int32) : Nat → Nat → Int32 := if x1 = 19 then (qI46_X4_takeSign_33_tFx n I A J t x1) else (qIm54_X4_takeSign_33_tFx n I A J t x1)
def qAm41_X4_takeSign_33_tFx (n : Nat) (I : Nat → Nat → Int32) (A : Nat → Nat → Int32) (J : Nat → Nat → Int64) (t : Bool × Bool) (x1 : Int32) : Nat → Nat → Int32 := if x1 = 19 then (pA_X4_release_33_tFx n I A J (false, t.2) x1) else (qAm54_X4_takeSign_33_tFx n I A J t x1)
def qI18_X4_takeSign_33_tFx (n : Nat) (I : Nat → Nat → Int32) (A : Nat → Nat → Int32) (J : Nat → Nat → Int64) (t : Bool × Bool) (x1 : Int32) : Nat → Nat → Int32 := cw_u (pI_X4_release_33_tFx n I A J (false, t.2) x1) 33 5 (((pI_X4_release_33_tFx n I A J (false, t.2) x1) 33 5) - 1)
def qI32_X4_takeSign_33_tFx (n : Nat) (I : Nat → Nat → Int32) (A : Nat → Nat → Int32) (J : Nat → Nat → Int64) (t : Bool × Bool) (x1 : Int32) : Nat → Nat → Int32 := cw_u (qI18_X4_takeSign_33_tFx n I A J t x1) 33 3 (px_J9_max_7cf53 n (qI18_X4_takeSign_33_tFx n I A J t x1) (pA_X4_release_33_tFx n I A J (false, t.2) x1) J (false, t.2) (((qI18_X4_takeSign_33_tFx n I A J t x1) 33 3) - 1) 0)
def qIm8_X4_takeSign_33_tFx (n : Nat) (I : Nat → Nat → Int32) (A : Nat → Nat → Int32) (J : Nat → Nat → Int64) (t : Bool × Bool) (x1 : Int32) : Nat → Nat → Int32 := if x1 = 12 then (qI32_X4_takeSign_33_tFx n I A J t x1) else (qIm41_X4_takeSign_33_tFx n I A J t x1)
def qAm8_X4_takeSign_33_tFx (n : Nat) (I : Nat → Nat → Int32) (A : Nat → Nat → Int32) (J : Nat → Nat → Int64) (t : Bool × Bool) (x1 : Int32) : Nat → Nat → Int32 := if x1 = 12 then (pA_X4_release_33_tFx n I A J (false, t.2) x1) else (qAm41_X4_takeSign_33_tFx n I A J t x1)
def pb_X4_takeSign_33_tFx (n : Nat) (I : Nat → Nat → Int32) (A : Nat → Nat → Int32) (J : Nat → Nat → Int64) (t : Bool × Bool) (x1 : Int32) : Prop := pb_X4_release_33_tFx n I A J (false, t.2) x1 ∧ (¬ x1 = 12 → (¬ x1 = 19 → (¬ x1 = 3 → ((qs1m62_X4_takeSign_33_tFx n I A J t x1) = 0 ∨ (qs1m62_X4_takeSign_33_tFx n I A J t x1) = 1) ∧ pb_X4_putOff_33 n (qI77_X4_takeSign_33_tFx n I A J t x1) (pA_X4_release_33_tFx n I A J (false, t.2) x1) J (false, t.2) x1)))
def pI_X4_takeSign_33_tFx (n : Nat) (I : Nat → Nat → Int32) (A : Nat → Nat → Int32) (J : Nat → Nat → Int64) (t : Bool × Bool) (x1 : Int32) : Nat → Nat → Int32 := (qIm8_X4_takeSign_33_tFx n I A J t x1)
def pA_X4_takeSign_33_tFx (n : Nat) (I : Nat → Nat → Int32) (A : Nat → Nat → Int32) (J : Nat → Nat → Int64) (t : Bool × Bool) (x1 : Int32) : Nat → Nat → Int32 := (qAm8_X4_takeSign_33_tFx n I A J t x1)
set_option maxRecDepth 100000 in
set_option maxHeartbeats 4000000 in
theorem cv_X4_takeSign_33_tFx (g : cw_G) (n : Nat) (I : Nat → Nat → Int32) (A : Nat → Nat → Int32) (J : Nat → Nat → Int64) (t : Bool × Bool) (x1 : Int32) (hb : pb_X4_takeSign_33_tFx n I A J t x1) : Cd g mX4_takeSign [(.ref (cw_z g + 33)), (.int x1)] (hp g I A J (false, t.2)) none (hp g (pI_X4_takeSign_33_tFx n I A J t x1) (pA_X4_takeSign_33_tFx n I A J t x1) J (false, t.2)) := by
  unfold pb_X4_takeSign_33_tFx at hb
  unfold pI_X4_takeSign_33_tFx pA_X4_takeSign_33_tFx
  refine Cd.of rfl (Nat.le_of_ble_eq_true rfl) (ev_gen (fun Q hQ => ?_))
  refine ev_aload_n (pc := 0) dX4_takeSign_0 rfl ?_
  refine ev_iload_n (pc := 1) dX4_takeSign_1 rfl ?_
  refine ev_Vv (pc := 2) dX4_takeSign_2 lk_X4_125 cd_X4_release ar_X4_release ⟨by decide, rfl, rfl⟩ (cv_X4_release_33_tFx g n I A J (false, t.2) x1 hb.1) (show 33 < 120 by decide) rfl rfl rfl rfl (Nat.le_of_ble_eq_true rfl) ⟨by decide, by decide⟩ ?_
  replace hb := hb.2
  refine ev_iload_n (pc := 5) dX4_takeSign_5 rfl ?_
  refine ev_bipush (pc := 6) (v := 12) dX4_takeSign_6 (by decide) ?_
  have hT_8 := hb
  refine ev_cut (pj := 85) (Lj := [some (.ref (cw_z g + 33)), some (.int x1)]) (stj := []) (σj := hp g (qIm8_X4_takeSign_33_tFx n I A J t x1) (qAm8_X4_takeSign_33_tFx n I A J t x1) J (false, t.2)) ?_ (fun hJ_8 => ?_)
  rotate_left
  · refine ev_icmp_ne (pc := 8) (tgt := 38) dX4_takeSign_8 (by decide) (fun c_8 => ?_) (fun c_8 => ?_)
    · have hb := hT_8 c_8
      refine ev_iload_n (pc := 38) dX4_takeSign_38 rfl ?_
      refine ev_bipush (pc := 39) (v := 19) dX4_takeSign_39 (by decide) ?_
      have hT_41 := hb
      refine ev_cut (pj := 85) (Lj := [some (.ref (cw_z g + 33)), some (.int x1)]) (stj := []) (σj := hp g (qIm41_X4_takeSign_33_tFx n I A J t x1) (qAm41_X4_takeSign_33_tFx n I A J t x1) J (false, t.2)) ?_ (fun hJ_41 => ?_)
      rotate_left
      · refine ev_icmp_ne (pc := 41) (tgt := 52) dX4_takeSign_41 (by decide) (fun c_41 => ?_) (fun c_41 => ?_)
        · have hb := hT_41 c_41
          refine ev_iload_n (pc := 52) dX4_takeSign_52 rfl ?_
          refine ev_iconst (pc := 53) (v := 3) dX4_takeSign_53 (by decide) ?_
          have hF_54 := hb
          refine ev_cut (pj := 85) (Lj := [some (.ref (cw_z g + 33)), some (.int x1)]) (stj := []) (σj := hp g (qIm54_X4_takeSign_33_tFx n I A J t x1) (qAm54_X4_takeSign_33_tFx n I A J t x1) J (false, t.2)) ?_ (fun hJ_54 => ?_)
          rotate_left
          · refine ev_icmp_eq (pc := 54) (tgt := 85) dX4_takeSign_54 (by decide) (fun c_54 => ?_) (fun c_54 => ?_)
            · simp only [qIm54_X4_takeSign_33_tFx, qAm54_X4_takeSign_33_tFx, if_pos c_54] at hJ_54
              exact ev_loc hJ_54 cw_le0
            · have hb := hF_54 c_54
              refine ev_aload_n (pc := 57) dX4_takeSign_57 rfl ?_
              refine ev_aload_n (pc := 58) dX4_takeSign_58 rfl ?_
              refine tv_geti (pc := 59) dX4_takeSign_59 fl_X4_39 (by decide) rfl rfl ?_
              refine ev_cut (pj := 77) (Lj := [some (.ref (cw_z g + 33)), some (.int x1)]) (stj := [(.int (qs1m62_X4_takeSign_33_tFx n I A J t x1)), (.ref (cw_z g + 33))]) (σj := hp g (pI_X4_release_33_tFx n I A J (false, t.2) x1) (pA_X4_release_33_tFx n I A J (false, t.2) x1) J (false, t.2)) ?_ (fun hJ_62 => ?_)
              rotate_left
              · refine ev_if_ne (pc := 62) (tgt := 72) dX4_takeSign_62 (by decide) (fun c_62 => ?_) (fun c_62 => ?_)
                · refine ev_iconst (pc := 72) (v := 1) dX4_takeSign_72 (by decide) ?_
                  refine ev_goto (pc := 73) (tgt := 77) dX4_takeSign_73 (by decide) ?_
                  simp only [qs1m62_X4_takeSign_33_tFx, if_neg c_62] at hJ_62
                  exact ev_loc hJ_62 cw_le0
                · refine ev_iload_n (pc := 65) dX4_takeSign_65 rfl ?_
                  refine ev_Si (pc := 66) dX4_takeSign_66 lk_X4_95 cd_X4_isRelation ar_X4_isRelation ⟨by decide, rfl, rfl⟩ (cv_X4_isRelation g n (pI_X4_release_33_tFx n I A J (false, t.2) x1) (pA_X4_release_33_tFx n I A J (false, t.2) x1) J (false, t.2) x1) rfl rfl (Nat.le_of_ble_eq_true rfl) ⟨by decide, by decide⟩ ?_
                  refine ev_cut (pj := 77) (Lj := [some (.ref (cw_z g + 33)), some (.int x1)]) (stj := [(.int (qs1m69_X4_takeSign_33_tFx n I A J t x1)), (.ref (cw_z g + 33))]) (σj := hp g (pI_X4_release_33_tFx n I A J (false, t.2) x1) (pA_X4_release_33_tFx n I A J (false, t.2) x1) J (false, t.2)) ?_ (fun hJ_69 => ?_)
                  rotate_left
                  · refine ev_if_eq (pc := 69) (tgt := 76) dX4_takeSign_69 (by decide) (fun c_69 => ?_) (fun c_69 => ?_)
                    · refine ev_iconst (pc := 76) (v := 0) dX4_takeSign_76 (by decide) ?_
                      simp only [qs1m69_X4_takeSign_33_tFx, if_pos c_69] at hJ_69
                      exact ev_loc hJ_69 cw_le0
                    · refine ev_iconst (pc := 72) (v := 1) dX4_takeSign_72 (by decide) ?_
                      refine ev_goto (pc := 73) (tgt := 77) dX4_takeSign_73 (by decide) ?_
                      simp only [qs1m69_X4_takeSign_33_tFx, if_neg c_69] at hJ_69
                      exact ev_loc hJ_69 cw_le0
                  simp only [qs1m62_X4_takeSign_33_tFx, if_pos c_62] at hJ_62
                  exact ev_loc hJ_62 cw_le0
              refine tw_putz (pc := 77) (I2 := (qI77_X4_takeSign_33_tFx n I A J t x1)) dX4_takeSign_77 fp_X4_39 (by decide) rfl rfl hb.1 rfl ?_
              replace hb := hb.2
              refine ev_aload_n (pc := 80) dX4_takeSign_80 rfl ?_
              refine ev_iload_n (pc := 81) dX4_takeSign_81 rfl ?_
              refine ev_Vv (pc := 82) dX4_takeSign_82 lk_X4_118 cd_X4_putOff ar_X4_putOff ⟨by decide, rfl, rfl⟩ (cv_X4_putOff_33 g n (qI77_X4_takeSign_33_tFx n I A J t x1) (pA_X4_release_33_tFx n I A J (false, t.2) x1) J (false, t.2) x1 hb) (show 33 < 120 by decide) rfl rfl rfl rfl (Nat.le_of_ble_eq_true rfl) ⟨by decide, by decide⟩ ?_
              simp only [qIm54_X4_takeSign_33_tFx, qAm54_X4_takeSign_33_tFx, if_neg c_54] at hJ_54
              exact ev_loc hJ_54 cw_le0
          simp only [qIm41_X4_takeSign_33_tFx, qAm41_X4_takeSign_33_tFx, if_neg c_41] at hJ_41
          exact ev_loc hJ_41 cw_le0
        · refine ev_aload_n (pc := 44) dX4_takeSign_44 rfl ?_
          refine ev_iconst (pc := 45) (v := 0) dX4_takeSign_45 (by decide) ?_
          refine tw_putz (pc := 46) (I2 := (qI46_X4_takeSign_33_tFx n I A J t x1)) dX4_takeSign_46 fp_X4_39 (by decide) rfl rfl (by simp) rfl ?_
          refine ev_goto (pc := 49) (tgt := 85) dX4_takeSign_49 (by decide) ?_
          simp only [qIm41_X4_takeSign_33_tFx, qAm41_X4_takeSign_33_tFx, if_pos c_41] at hJ_41
          exact ev_loc hJ_41 cw_le0
      simp only [qIm8_X4_takeSign_33_tFx, qAm8_X4_takeSign_33_tFx, if_neg c_8] at hJ_8
      exact ev_loc hJ_8 cw_le0
    · refine ev_aload_n (pc := 11) dX4_takeSign_11 rfl ?_
      refine ev_dup (pc := 12) dX4_takeSign_12 rfl ?_
      refine tv_geti (pc := 13) dX4_takeSign_13 fl_X4_36 (by decide) rfl rfl ?_
      refine ev_iconst (pc := 16) (v := 1) dX4_takeSign_16 (by decide) ?_
      refine ev_isub (pc := 17) dX4_takeSign_17 ?_
      refine tw_puti (pc := 18) (I2 := (qI18_X4_takeSign_33_tFx n I A J t x1)) dX4_takeSign_18 fp_X4_36 (by decide) rfl rfl rfl ?_
      refine ev_aload_n (pc := 21) dX4_takeSign_21 rfl ?_
      refine ev_aload_n (pc := 22) dX4_takeSign_22 rfl ?_
      refine tv_geti (pc := 23) dX4_takeSign_23 fl_X4_29 (by decide) rfl rfl ?_
      refine ev_iconst (pc := 26) (v := 1) dX4_takeSign_26 (by decide) ?_
      refine ev_isub (pc := 27) dX4_takeSign_27 ?_
      refine ev_iconst (pc := 28) (v := 0) dX4_takeSign_28 (by decide) ?_
      refine ev_Si (pc := 29) dX4_takeSign_29 lk_X4_128 cd_J9_max_7cf53 ar_J9_max_7cf53 ⟨by decide, rfl, rfl⟩ (cv_J9_max_7cf53 g n (qI18_X4_takeSign_33_tFx n I A J t x1) (pA_X4_release_33_tFx n I A J (false, t.2) x1) J (false, t.2) (((qI18_X4_takeSign_33_tFx n I A J t x1) 33 3) - 1) 0) rfl rfl (Nat.le_of_ble_eq_true rfl) ⟨by decide, by decide⟩ ?_
      refine tw_puti (pc := 32) (I2 := (qI32_X4_takeSign_33_tFx n I A J t x1)) dX4_takeSign_32 fp_X4_29 (by decide) rfl rfl rfl ?_
      refine ev_goto (pc := 35) (tgt := 85) dX4_takeSign_35 (by decide) ?_
      simp only [qIm8_X4_takeSign_33_tFx, qAm8_X4_takeSign_33_tFx, if_pos c_8] at hJ_8
      exact ev_loc hJ_8 cw_le0
  exact ev_vret (pc := 85) dX4_takeSign_85 rfl (by decide) (by decide) (hQ _ _ ⟨rfl, rfl⟩)

def q4_X4_take_33_tFx (n : Nat) (I : Nat → Nat → Int32) (A : Nat → Nat → Int32) (J : Nat → Nat → Int64) (t : Bool × Bool) (x1 : Int32) : Int32 := (I 33 4)
def qI11_X4_take_33_tFx (n : Nat) (I : Nat → Nat → Int32) (A : Nat → Nat → Int32) (J : Nat → Nat → Int64) (t : Bool × Bool) (x1 : Int32) : Nat → Nat → Int32 := cw_u I 33 4 (px_X4_stateBehind_33 n I A J (false, t.2) x1)
def qIm74_X4_take_33_tFx (n : Nat) (I : Nat → Nat → Int32) (A : Nat → Nat → Int32) (J : Nat → Nat → Int64) (t : Bool × Bool) (x1 : Int32) : Nat → Nat → Int32 := if (q4_X4_take_33_tFx n I A J t x1) = 8 then (pI_X4_takeSign_33_tFx n (qI11_X4_take_33_tFx n I A J t x1) A J (false, t.2) x1) else (qI11_X4_take_33_tFx n I A J t x1)
def qAm74_X4_take_33_tFx (n : Nat) (I : Nat → Nat → Int32) (A : Nat → Nat → Int32) (J : Nat → Nat → Int64) (t : Bool × Bool) (x1 : Int32) : Nat → Nat → Int32 := if (q4_X4_take_33_tFx n I A J t x1) = 8 then (pA_X4_takeSign_33_tFx n (qI11_X4_take_33_tFx n I A J t x1) A J (false, t.2) x1) else A
def qIm60_X4_take_33_tFx (n : Nat) (I : Nat → Nat → Int32) (A : Nat → Nat → Int32) (J : Nat → Nat → Int64) (t : Bool × Bool) (x1 : Int32) : Nat → Nat → Int32 := if (q4_X4_take_33_tFx n I A J t x1) = 7 then (pI_X4_takeUnit_33_tFx n (qI11_X4_take_33_tFx n I A J t x1) A J (false, t.2) x1) else (qIm74_X4_take_33_tFx n I A J t x1)
def qAm60_X4_take_33_tFx (n : Nat) (I : Nat → Nat → Int32) (A : Nat → Nat → Int32) (J : Nat → Nat → Int64) (t : Bool × Bool) (x1 : Int32) : Nat → Nat → Int32 := if (q4_X4_take_33_tFx n I A J t x1) = 7 then (pA_X4_takeUnit_33_tFx n (qI11_X4_take_33_tFx n I A J t x1) A J (false, t.2) x1) else (qAm74_X4_take_33_tFx n I A J t x1)
def qIm47_X4_take_33_tFx (n : Nat) (I : Nat → Nat → Int32) (A : Nat → Nat → Int32) (J : Nat → Nat → Int64) (t : Bool × Bool) (x1 : Int32) : Nat → Nat → Int32 := if (q4_X4_take_33_tFx n I A J t x1) = 5 then (pI_X4_takeUntil_33 n (qI11_X4_take_33_tFx n I A J t x1) A J (false, t.2) ) else (qIm60_X4_take_33_tFx n I A J t x1)
def qAm47_X4_take_33_tFx (n : Nat) (I : Nat → Nat → Int32) (A : Nat → Nat → Int32) (J : Nat → Nat → Int64) (t : Bool × Bool) (x1 : Int32) : Nat → Nat → Int32 := if (q4_X4_take_33_tFx n I A J t x1) = 5 then A else (qAm60_X4_take_33_tFx n I A J t x1)
def qI39_X4_take_33_tFx (n : Nat) (I : Nat → Nat → Int32) (A : Nat → Nat → Int32) (J : Nat → Nat → Int64) (t : Bool × Bool) (x1 : Int32) : Nat → Nat → Int32 := cw_u (qI11_X4_take_33_tFx n I A J t x1) 33 8 ((qI11_X4_take_33_tFx n I A J t x1) 34 5)
def qIm28_X4_take_33_tFx (n : Nat) (I : Nat → Nat → Int32) (A : Nat → Nat → Int32) (J : Nat → Nat → Int64) (t : Bool × Bool) (x1 : Int32) : Nat → Nat → Int32 := if (q4_X4_take_33_tFx n I A J t x1) = 3 then (qI39_X4_take_33_tFx n I A J t x1) else (qIm47_X4_take_33_tFx n I A J t x1)
def qAm28_X4_take_33_tFx (n : Nat) (I : Nat → Nat → Int32) (A : Nat → Nat → Int32) (J : Nat → Nat → Int64) (t : Bool × Bool) (x1 : Int32) : Nat → Nat → Int32 := if (q4_X4_take_33_tFx n I A J t x1) = 3 then A else (qAm47_X4_take_33_tFx n I A J t x1)
def qIm15_X4_take_33_tFx (n : Nat) (I : Nat → Nat → Int32) (A : Nat → Nat → Int32) (J : Nat → Nat → Int64) (t : Bool × Bool) (x1 : Int32) : Nat → Nat → Int32 := if (q4_X4_take_33_tFx n I A J t x1) = 0 then (pI_X4_startRule_33 n (qI11_X4_take_33_tFx n I A J t x1) A J (false, t.2) x1) else (qIm28_X4_take_33_tFx n I A J t x1)
def qAm15_X4_take_33_tFx (n : Nat) (I : Nat → Nat → Int32) (A : Nat → Nat → Int32) (J : Nat → Nat → Int64) (t : Bool × Bool) (x1 : Int32) : Nat → Nat → Int32 := if (q4_X4_take_33_tFx n I A J t x1) = 0 then A else (qAm28_X4_take_33_tFx n I A J t x1)
def qIm84_X4_take_33_tFx (n : Nat) (I : Nat → Nat → Int32) (A : Nat → Nat → Int32) (J : Nat → Nat → Int64) (t : Bool × Bool) (x1 : Int32) : Nat → Nat → Int32 := if x1 = 3 then (pI_X10_addRule_37 n (qIm15_X4_take_33_tFx n I A J t x1) (qAm15_X4_take_33_tFx n I A J t x1) J (false, t.2) ((qIm15_X4_take_33_tFx n I A J t x1) 33 7) ((qIm15_X4_take_33_tFx n I A J t x1) 33 8) ((qIm15_X4_take_33_tFx n I A J t x1) 33 9)) else (qIm15_X4_take_33_tFx n I A J t x1)
def qAm84_X4_take_33_tFx (n : Nat) (I : Nat → Nat → Int32) (A : Nat → Nat → Int32) (J : Nat → Nat → Int64) (t : Bool × Bool) (x1 : Int32) : Nat → Nat → Int32 := if x1 = 3 then (pA_X10_addRule_37 n (qIm15_X4_take_33_tFx n I A J t x1) (qAm15_X4_take_33_tFx n I A J t x1) J (false, t.2) ((qIm15_X4_take_33_tFx n I A J t x1) 33 7) ((qIm15_X4_take_33_tFx n I A J t x1) 33 8) ((qIm15_X4_take_33_tFx n I A J t x1) 33 9)) else (qAm15_X4_take_33_tFx n I A J t x1)
def pb_X4_take_33_tFx (n : Nat) (I : Nat → Nat → Int32) (A : Nat → Nat → Int32) (J : Nat → Nat → Int64) (t : Bool × Bool) (x1 : Int32) : Prop := (¬ (q4_X4_take_33_tFx n I A J t x1) = 0 → (¬ (q4_X4_take_33_tFx n I A J t x1) = 3 → (¬ (q4_X4_take_33_tFx n I A J t x1) = 5 → (¬ (q4_X4_take_33_tFx n I A J t x1) = 7 → ((q4_X4_take_33_tFx n I A J t x1) = 8 → pb_X4_takeSign_33_tFx n (qI11_X4_take_33_tFx n I A J t x1) A J (false, t.2) x1)) ∧ ((q4_X4_take_33_tFx n I A J t x1) = 7 → pb_X4_takeUnit_33_tFx n (qI11_X4_take_33_tFx n I A J t x1) A J (false, t.2) x1)))) ∧ ((q4_X4_take_33_tFx n I A J t x1) = 0 → pb_X4_startRule_33 n (qI11_X4_take_33_tFx n I A J t x1) A J (false, t.2) x1) ∧ (x1 = 3 → pb_X10_addRule_37 n (qIm15_X4_take_33_tFx n I A J t x1) (qAm15_X4_take_33_tFx n I A J t x1) J (false, t.2) ((qIm15_X4_take_33_tFx n I A J t x1) 33 7) ((qIm15_X4_take_33_tFx n I A J t x1) 33 8) ((qIm15_X4_take_33_tFx n I A J t x1) 33 9))
def pI_X4_take_33_tFx (n : Nat) (I : Nat → Nat → Int32) (A : Nat → Nat → Int32) (J : Nat → Nat → Int64) (t : Bool × Bool) (x1 : Int32) : Nat → Nat → Int32 := (qIm84_X4_take_33_tFx n I A J t x1)
def pA_X4_take_33_tFx (n : Nat) (I : Nat → Nat → Int32) (A : Nat → Nat → Int32) (J : Nat → Nat → Int64) (t : Bool × Bool) (x1 : Int32) : Nat → Nat → Int32 := (qAm84_X4_take_33_tFx n I A J t x1)
set_option maxRecDepth 100000 in
set_option maxHeartbeats 4000000 in
theorem cv_X4_take_33_tFx (g : cw_G) (n : Nat) (I : Nat → Nat → Int32) (A : Nat → Nat → Int32) (J : Nat → Nat → Int64) (t : Bool × Bool) (x1 : Int32) (hb : pb_X4_take_33_tFx n I A J t x1) : Cd g mX4_take [(.ref (cw_z g + 33)), (.int x1)] (hp g I A J (false, t.2)) none (hp g (pI_X4_take_33_tFx n I A J t x1) (pA_X4_take_33_tFx n I A J t x1) J (false, t.2)) := by
  unfold pb_X4_take_33_tFx at hb
  unfold pI_X4_take_33_tFx pA_X4_take_33_tFx
  refine Cd.of rfl (Nat.le_of_ble_eq_true rfl) (ev_gen (fun Q hQ => ?_))
  refine ev_aload_n (pc := 0) dX4_take_0 rfl ?_
  refine tv_geti (pc := 1) dX4_take_1 fl_X4_33 (by decide) rfl rfl ?_
  refine ev_is (y := (q4_X4_take_33_tFx n I A J t x1)) rfl ?_
  refine ev_istore_2 (pc := 4) dX4_take_4 (by decide) rfl ?_
  refine ev_aload_n (pc := 5) dX4_take_5 rfl ?_
  refine ev_aload_n (pc := 6) dX4_take_6 rfl ?_
  refine ev_iload_n (pc := 7) dX4_take_7 rfl ?_
  refine ev_Vi (pc := 8) dX4_take_8 lk_X4_82 cd_X4_stateBehind ar_X4_stateBehind ⟨by decide, rfl, rfl⟩ (cv_X4_stateBehind_33 g n I A J (false, t.2) x1) (show 33 < 120 by decide) rfl rfl rfl rfl (Nat.le_of_ble_eq_true rfl) ⟨by decide, by decide⟩ ?_
  refine tw_puti (pc := 11) (I2 := (qI11_X4_take_33_tFx n I A J t x1)) dX4_take_11 fp_X4_33 (by decide) rfl rfl rfl ?_
  refine ev_iload_n (pc := 14) dX4_take_14 rfl ?_
  obtain ⟨hT_15, hF_15, hb⟩ := hb
  refine ev_cut (pj := 82) (Lj := [some (.ref (cw_z g + 33)), some (.int x1), some (.int (q4_X4_take_33_tFx n I A J t x1))]) (stj := []) (σj := hp g (qIm15_X4_take_33_tFx n I A J t x1) (qAm15_X4_take_33_tFx n I A J t x1) J (false, t.2)) ?_ (fun hJ_15 => ?_)
  rotate_left
  · refine ev_if_ne (pc := 15) (tgt := 26) dX4_take_15 (by decide) (fun c_15 => ?_) (fun c_15 => ?_)
    · have hb := hT_15 c_15
      refine ev_iload_n (pc := 26) dX4_take_26 rfl ?_
      refine ev_iconst (pc := 27) (v := 3) dX4_take_27 (by decide) ?_
      have hT_28 := hb
      refine ev_cut (pj := 82) (Lj := [some (.ref (cw_z g + 33)), some (.int x1), some (.int (q4_X4_take_33_tFx n I A J t x1))]) (stj := []) (σj := hp g (qIm28_X4_take_33_tFx n I A J t x1) (qAm28_X4_take_33_tFx n I A J t x1) J (false, t.2)) ?_ (fun hJ_28 => ?_)
      rotate_left
      · refine ev_icmp_ne (pc := 28) (tgt := 45) dX4_take_28 (by decide) (fun c_28 => ?_) (fun c_28 => ?_)
        · have hb := hT_28 c_28
          refine ev_iload_n (pc := 45) dX4_take_45 rfl ?_
          refine ev_iconst (pc := 46) (v := 5) dX4_take_46 (by decide) ?_
          have hT_47 := hb
          refine ev_cut (pj := 82) (Lj := [some (.ref (cw_z g + 33)), some (.int x1), some (.int (q4_X4_take_33_tFx n I A J t x1))]) (stj := []) (σj := hp g (qIm47_X4_take_33_tFx n I A J t x1) (qAm47_X4_take_33_tFx n I A J t x1) J (false, t.2)) ?_ (fun hJ_47 => ?_)
          rotate_left
          · refine ev_icmp_ne (pc := 47) (tgt := 57) dX4_take_47 (by decide) (fun c_47 => ?_) (fun c_47 => ?_)
            · have hb := hT_47 c_47
              refine ev_iload_n (pc := 57) dX4_take_57 rfl ?_
              refine ev_bipush (pc := 58) (v := 7) dX4_take_58 (by decide) ?_
              obtain ⟨hT_60, hF_60⟩ := hb
              refine ev_cut (pj := 82) (Lj := [some (.ref (cw_z g + 33)), some (.int x1), some (.int (q4_X4_take_33_tFx n I A J t x1))]) (stj := []) (σj := hp g (qIm60_X4_take_33_tFx n I A J t x1) (qAm60_X4_take_33_tFx n I A J t x1) J (false, t.2)) ?_ (fun hJ_60 => ?_)
              rotate_left
              · refine ev_icmp_ne (pc := 60) (tgt := 71) dX4_take_60 (by decide) (fun c_60 => ?_) (fun c_60 => ?_)
                · have hb := hT_60 c_60
                  refine ev_iload_n (pc := 71) dX4_take_71 rfl ?_
                  refine ev_bipush (pc := 72) (v := 8) dX4_take_72 (by decide) ?_
                  have hF_74 := hb
                  refine ev_cut (pj := 82) (Lj := [some (.ref (cw_z g + 33)), some (.int x1), some (.int (q4_X4_take_33_tFx n I A J t x1))]) (stj := []) (σj := hp g (qIm74_X4_take_33_tFx n I A J t x1) (qAm74_X4_take_33_tFx n I A J t x1) J (false, t.2)) ?_ (fun hJ_74 => ?_)
                  rotate_left
                  · refine ev_icmp_ne (pc := 74) (tgt := 82) dX4_take_74 (by decide) (fun c_74 => ?_) (fun c_74 => ?_)
                    · simp only [qIm74_X4_take_33_tFx, qAm74_X4_take_33_tFx, if_neg c_74] at hJ_74
                      exact ev_loc hJ_74 cw_le0
                    · have hb := hF_74 c_74
                      refine ev_aload_n (pc := 77) dX4_take_77 rfl ?_
                      refine ev_iload_n (pc := 78) dX4_take_78 rfl ?_
                      refine ev_Vv (pc := 79) dX4_take_79 lk_X4_111 cd_X4_takeSign ar_X4_takeSign ⟨by decide, rfl, rfl⟩ (cv_X4_takeSign_33_tFx g n (qI11_X4_take_33_tFx n I A J t x1) A J (false, t.2) x1 hb) (show 33 < 120 by decide) rfl rfl rfl rfl (Nat.le_of_ble_eq_true rfl) ⟨by decide, by decide⟩ ?_
                      simp only [qIm74_X4_take_33_tFx, qAm74_X4_take_33_tFx, if_pos c_74] at hJ_74
                      exact ev_loc hJ_74 cw_le0
                  simp only [qIm60_X4_take_33_tFx, qAm60_X4_take_33_tFx, if_neg c_60] at hJ_60
                  exact ev_loc hJ_60 cw_le0
                · have hb := hF_60 c_60
                  refine ev_aload_n (pc := 63) dX4_take_63 rfl ?_
                  refine ev_iload_n (pc := 64) dX4_take_64 rfl ?_
                  refine ev_Vv (pc := 65) dX4_take_65 lk_X4_108 cd_X4_takeUnit ar_X4_takeUnit ⟨by decide, rfl, rfl⟩ (cv_X4_takeUnit_33_tFx g n (qI11_X4_take_33_tFx n I A J t x1) A J (false, t.2) x1 hb) (show 33 < 120 by decide) rfl rfl rfl rfl (Nat.le_of_ble_eq_true rfl) ⟨by decide, by decide⟩ ?_
                  refine ev_goto (pc := 68) (tgt := 82) dX4_take_68 (by decide) ?_
                  simp only [qIm60_X4_take_33_tFx, qAm60_X4_take_33_tFx, if_pos c_60] at hJ_60
                  exact ev_loc hJ_60 cw_le0
              simp only [qIm47_X4_take_33_tFx, qAm47_X4_take_33_tFx, if_neg c_47] at hJ_47
              exact ev_loc hJ_47 cw_le0
            · refine ev_aload_n (pc := 50) dX4_take_50 rfl ?_
              refine ev_Vv (pc := 51) dX4_take_51 lk_X4_105 cd_X4_takeUntil ar_X4_takeUntil ⟨by decide, rfl, rfl⟩ (cv_X4_takeUntil_33 g n (qI11_X4_take_33_tFx n I A J t x1) A J (false, t.2) ) (show 33 < 120 by decide) rfl rfl rfl rfl (Nat.le_of_ble_eq_true rfl) ⟨by decide, by decide⟩ ?_
              refine ev_goto (pc := 54) (tgt := 82) dX4_take_54 (by decide) ?_
              simp only [qIm47_X4_take_33_tFx, qAm47_X4_take_33_tFx, if_pos c_47] at hJ_47
              exact ev_loc hJ_47 cw_le0
          simp only [qIm28_X4_take_33_tFx, qAm28_X4_take_33_tFx, if_neg c_28] at hJ_28
          exact ev_loc hJ_28 cw_le0
        · refine ev_aload_n (pc := 31) dX4_take_31 rfl ?_
          refine ev_aload_n (pc := 32) dX4_take_32 rfl ?_
          refine tv_getr (pc := 33) (d := 34) dX4_take_33 fl_X4_12 (by decide) rfl rfl ?_
          refine tv_geti (pc := 36) dX4_take_36 fl_X4_102 (by decide) rfl rfl ?_
          refine tw_puti (pc := 39) (I2 := (qI39_X4_take_33_tFx n I A J t x1)) dX4_take_39 fp_X4_46 (by decide) rfl rfl rfl ?_
          refine ev_goto (pc := 42) (tgt := 82) dX4_take_42 (by decide) ?_
          simp only [qIm28_X4_take_33_tFx, qAm28_X4_take_33_tFx, if_pos c_28] at hJ_28
          exact ev_loc hJ_28 cw_le0
      simp only [qIm15_X4_take_33_tFx, qAm15_X4_take_33_tFx, if_neg c_15] at hJ_15
      exact ev_loc hJ_15 cw_le0
    · have hb := hF_15 c_15
      refine ev_aload_n (pc := 18) dX4_take_18 rfl ?_
      refine ev_iload_n (pc := 19) dX4_take_19 rfl ?_
      refine ev_Vv (pc := 20) dX4_take_20 lk_X4_99 cd_X4_startRule ar_X4_startRule ⟨by decide, rfl, rfl⟩ (cv_X4_startRule_33 g n (qI11_X4_take_33_tFx n I A J t x1) A J (false, t.2) x1 hb) (show 33 < 120 by decide) rfl rfl rfl rfl (Nat.le_of_ble_eq_true rfl) ⟨by decide, by decide⟩ ?_
      refine ev_goto (pc := 23) (tgt := 82) dX4_take_23 (by decide) ?_
      simp only [qIm15_X4_take_33_tFx, qAm15_X4_take_33_tFx, if_pos c_15] at hJ_15
      exact ev_loc hJ_15 cw_le0
  refine ev_iload_n (pc := 82) dX4_take_82 rfl ?_
  refine ev_iconst (pc := 83) (v := 3) dX4_take_83 (by decide) ?_
  have hF_84 := hb
  refine ev_cut (pj := 106) (Lj := [some (.ref (cw_z g + 33)), some (.int x1), some (.int (q4_X4_take_33_tFx n I A J t x1))]) (stj := []) (σj := hp g (qIm84_X4_take_33_tFx n I A J t x1) (qAm84_X4_take_33_tFx n I A J t x1) J (false, t.2)) ?_ (fun hJ_84 => ?_)
  rotate_left
  · refine ev_icmp_ne (pc := 84) (tgt := 106) dX4_take_84 (by decide) (fun c_84 => ?_) (fun c_84 => ?_)
    · simp only [qIm84_X4_take_33_tFx, qAm84_X4_take_33_tFx, if_neg c_84] at hJ_84
      exact ev_loc hJ_84 cw_le0
    · have hb := hF_84 c_84
      refine ev_aload_n (pc := 87) dX4_take_87 rfl ?_
      refine tv_getr (pc := 88) (d := 37) dX4_take_88 fl_X4_25 (by decide) rfl rfl ?_
      refine ev_aload_n (pc := 91) dX4_take_91 rfl ?_
      refine tv_geti (pc := 92) dX4_take_92 fl_X4_43 (by decide) rfl rfl ?_
      refine ev_aload_n (pc := 95) dX4_take_95 rfl ?_
      refine tv_geti (pc := 96) dX4_take_96 fl_X4_46 (by decide) rfl rfl ?_
      refine ev_aload_n (pc := 99) dX4_take_99 rfl ?_
      refine tv_geti (pc := 100) dX4_take_100 fl_X4_49 (by decide) rfl rfl ?_
      refine ev_Vv (pc := 103) dX4_take_103 lk_X4_114 cd_X10_addRule ar_X10_addRule ⟨by decide, rfl, rfl⟩ (cv_X10_addRule_37 g n (qIm15_X4_take_33_tFx n I A J t x1) (qAm15_X4_take_33_tFx n I A J t x1) J (false, t.2) ((qIm15_X4_take_33_tFx n I A J t x1) 33 7) ((qIm15_X4_take_33_tFx n I A J t x1) 33 8) ((qIm15_X4_take_33_tFx n I A J t x1) 33 9) hb) (show 37 < 120 by decide) rfl rfl rfl rfl (Nat.le_of_ble_eq_true rfl) ⟨by decide, by decide⟩ ?_
      simp only [qIm84_X4_take_33_tFx, qAm84_X4_take_33_tFx, if_pos c_84] at hJ_84
      exact ev_loc hJ_84 cw_le0
  exact ev_vret (pc := 106) dX4_take_106 rfl (by decide) (by decide) (hQ _ _ ⟨rfl, rfl⟩)

def qs0m44_X4_faultOf_33_tTx (n : Nat) (I : Nat → Nat → Int32) (A : Nat → Nat → Int32) (J : Nat → Nat → Int64) (t : Bool × Bool) (x1 : Int32) (x2 : Int32) : Int32 := if (I 60 8) < 20 then 0 else 1
def qs0m32_X4_faultOf_33_tTx (n : Nat) (I : Nat → Nat → Int32) (A : Nat → Nat → Int32) (J : Nat → Nat → Int64) (t : Bool × Bool) (x1 : Int32) (x2 : Int32) : Int32 := if (I 33 4) = 0 then (qs0m44_X4_faultOf_33_tTx n I A J t x1 x2) else 0
def qs0m65_X4_faultOf_33_tTx (n : Nat) (I : Nat → Nat → Int32) (A : Nat → Nat → Int32) (J : Nat → Nat → Int64) (t : Bool × Bool) (x1 : Int32) (x2 : Int32) : Int32 := if (I 33 5) < 6 then 0 else 1
def qs0m56_X4_faultOf_33_tTx (n : Nat) (I : Nat → Nat → Int32) (A : Nat → Nat → Int32) (J : Nat → Nat → Int64) (t : Bool × Bool) (x1 : Int32) (x2 : Int32) : Int32 := if x1 = 11 then (qs0m65_X4_faultOf_33_tTx n I A J t x1 x2) else 0
def qs0m88_X4_faultOf_33_tTx (n : Nat) (I : Nat → Nat → Int32) (A : Nat → Nat → Int32) (J : Nat → Nat → Int64) (t : Bool × Bool) (x1 : Int32) (x2 : Int32) : Int32 := if (qs0m56_X4_faultOf_33_tTx n I A J t x1 x2) = 0 then 0 else 2
def qs0m83_X4_faultOf_33_tTx (n : Nat) (I : Nat → Nat → Int32) (A : Nat → Nat → Int32) (J : Nat → Nat → Int64) (t : Bool × Bool) (x1 : Int32) (x2 : Int32) : Int32 := if (qs0m32_X4_faultOf_33_tTx n I A J t x1 x2) = 0 then (qs0m88_X4_faultOf_33_tTx n I A J t x1 x2) else 2
def qs0m79_X4_faultOf_33_tTx (n : Nat) (I : Nat → Nat → Int32) (A : Nat → Nat → Int32) (J : Nat → Nat → Int64) (t : Bool × Bool) (x1 : Int32) (x2 : Int32) : Int32 := if 400 ≤ x2 then 2 else (qs0m83_X4_faultOf_33_tTx n I A J t x1 x2)
def qs0m8_X4_faultOf_33_tTx (n : Nat) (I : Nat → Nat → Int32) (A : Nat → Nat → Int32) (J : Nat → Nat → Int64) (t : Bool × Bool) (x1 : Int32) (x2 : Int32) : Int32 := if (I 33 4) = 0 then 0 else 1
def px_X4_faultOf_33_tTx (n : Nat) (I : Nat → Nat → Int32) (A : Nat → Nat → Int32) (J : Nat → Nat → Int64) (t : Bool × Bool) (x1 : Int32) (x2 : Int32) : Int32 := (if x1 = 0 then (qs0m8_X4_faultOf_33_tTx n I A J t x1 x2) else (if (px_X4_stateBehind_33 n I A J (true, t.2) x1) = (-1) then 1 else (qs0m79_X4_faultOf_33_tTx n I A J t x1 x2)))
set_option maxRecDepth 100000 in
set_option maxHeartbeats 4000000 in
theorem cv_X4_faultOf_33_tTx (g : cw_G) (n : Nat) (I : Nat → Nat → Int32) (A : Nat → Nat → Int32) (J : Nat → Nat → Int64) (t : Bool × Bool) (x1 : Int32) (x2 : Int32) : Cd g mX4_faultOf [(.ref (cw_z g + 33)), (.int x1), (.int x2)] (hp g I A J (true, t.2)) (some (.int (px_X4_faultOf_33_tTx n I A J t x1 x2))) (hp g I A J (true, t.2)) := by
  unfold px_X4_faultOf_33_tTx
  refine Cd.of rfl (Nat.le_of_ble_eq_true rfl) (ev_gen (fun Q hQ => ?_))
  refine ev_iload_n (pc := 0) dX4_faultOf_0 rfl ?_
  refine ev_if_ne (pc := 1) (tgt := 17) dX4_faultOf_1 (by decide) (fun c_1 => ?_) (fun c_1 => ?_)
  · try simp only [if_neg c_1] at hQ
    refine ev_aload_n (pc := 17) dX4_faultOf_17 rfl ?_
    refine ev_iload_n (pc := 18) dX4_faultOf_18 rfl ?_
    refine ev_Vi (pc := 19) dX4_faultOf_19 lk_X4_82 cd_X4_stateBehind ar_X4_stateBehind ⟨by decide, rfl, rfl⟩ (cv_X4_stateBehind_33 g n I A J (true, t.2) x1) (show 33 < 120 by decide) rfl rfl rfl rfl (Nat.le_of_ble_eq_true rfl) ⟨by decide, by decide⟩ ?_
    refine ev_iconst (pc := 22) (v := (-1)) dX4_faultOf_22 (by decide) ?_
    refine ev_icmp_ne (pc := 23) (tgt := 28) dX4_faultOf_23 (by decide) (fun c_23 => ?_) (fun c_23 => ?_)
    · try simp only [if_neg c_23] at hQ
      refine ev_aload_n (pc := 28) dX4_faultOf_28 rfl ?_
      refine tv_geti (pc := 29) dX4_faultOf_29 fl_X4_33 (by decide) rfl rfl ?_
      refine ev_cut (pj := 52) (Lj := [some (.ref (cw_z g + 33)), some (.int x1), some (.int x2), none, none]) (stj := [(.int (qs0m32_X4_faultOf_33_tTx n I A J t x1 x2))]) (σj := hp g I A J (true, t.2)) ?_ (fun hJ_32 => ?_)
      rotate_left
      · refine ev_if_ne (pc := 32) (tgt := 51) dX4_faultOf_32 (by decide) (fun c_32 => ?_) (fun c_32 => ?_)
        · refine ev_iconst (pc := 51) (v := 0) dX4_faultOf_51 (by decide) ?_
          simp only [qs0m32_X4_faultOf_33_tTx, if_neg c_32] at hJ_32
          exact ev_loc hJ_32 cw_le0
        · refine ev_aload_n (pc := 35) dX4_faultOf_35 rfl ?_
          refine tv_getr (pc := 36) (d := 60) dX4_faultOf_36 fl_X4_25 (by decide) rfl rfl ?_
          refine tv_geti (pc := 39) dX4_faultOf_39 fl_X4_86 (by decide) rfl rfl ?_
          refine ev_bipush (pc := 42) (v := 20) dX4_faultOf_42 (by decide) ?_
          refine ev_cut (pj := 52) (Lj := [some (.ref (cw_z g + 33)), some (.int x1), some (.int x2), none, none]) (stj := [(.int (qs0m44_X4_faultOf_33_tTx n I A J t x1 x2))]) (σj := hp g I A J (true, t.2)) ?_ (fun hJ_44 => ?_)
          rotate_left
          · refine ev_icmp_lt (pc := 44) (tgt := 51) dX4_faultOf_44 (by decide) (fun c_44 => ?_) (fun c_44 => ?_)
            · refine ev_iconst (pc := 51) (v := 0) dX4_faultOf_51 (by decide) ?_
              simp only [qs0m44_X4_faultOf_33_tTx, if_pos c_44] at hJ_44
              exact ev_loc hJ_44 cw_le0
            · refine ev_iconst (pc := 47) (v := 1) dX4_faultOf_47 (by decide) ?_
              refine ev_goto (pc := 48) (tgt := 52) dX4_faultOf_48 (by decide) ?_
              simp only [qs0m44_X4_faultOf_33_tTx, if_neg c_44] at hJ_44
              exact ev_loc hJ_44 cw_le0
          simp only [qs0m32_X4_faultOf_33_tTx, if_pos c_32] at hJ_32
          exact ev_loc hJ_32 cw_le0
      refine ev_istore_3 (pc := 52) dX4_faultOf_52 (by decide) rfl ?_
      refine ev_iload_n (pc := 53) dX4_faultOf_53 rfl ?_
      refine ev_bipush (pc := 54) (v := 11) dX4_faultOf_54 (by decide) ?_
      refine ev_cut (pj := 73) (Lj := [some (.ref (cw_z g + 33)), some (.int x1), some (.int x2), some (.int (qs0m32_X4_faultOf_33_tTx n I A J t x1 x2)), none]) (stj := [(.int (qs0m56_X4_faultOf_33_tTx n I A J t x1 x2))]) (σj := hp g I A J (true, t.2)) ?_ (fun hJ_56 => ?_)
      rotate_left
      · refine ev_icmp_ne (pc := 56) (tgt := 72) dX4_faultOf_56 (by decide) (fun c_56 => ?_) (fun c_56 => ?_)
        · refine ev_iconst (pc := 72) (v := 0) dX4_faultOf_72 (by decide) ?_
          simp only [qs0m56_X4_faultOf_33_tTx, if_neg c_56] at hJ_56
          exact ev_loc hJ_56 cw_le0
        · refine ev_aload_n (pc := 59) dX4_faultOf_59 rfl ?_
          refine tv_geti (pc := 60) dX4_faultOf_60 fl_X4_36 (by decide) rfl rfl ?_
          refine ev_bipush (pc := 63) (v := 6) dX4_faultOf_63 (by decide) ?_
          refine ev_cut (pj := 73) (Lj := [some (.ref (cw_z g + 33)), some (.int x1), some (.int x2), some (.int (qs0m32_X4_faultOf_33_tTx n I A J t x1 x2)), none]) (stj := [(.int (qs0m65_X4_faultOf_33_tTx n I A J t x1 x2))]) (σj := hp g I A J (true, t.2)) ?_ (fun hJ_65 => ?_)
          rotate_left
          · refine ev_icmp_lt (pc := 65) (tgt := 72) dX4_faultOf_65 (by decide) (fun c_65 => ?_) (fun c_65 => ?_)
            · refine ev_iconst (pc := 72) (v := 0) dX4_faultOf_72 (by decide) ?_
              simp only [qs0m65_X4_faultOf_33_tTx, if_pos c_65] at hJ_65
              exact ev_loc hJ_65 cw_le0
            · refine ev_iconst (pc := 68) (v := 1) dX4_faultOf_68 (by decide) ?_
              refine ev_goto (pc := 69) (tgt := 73) dX4_faultOf_69 (by decide) ?_
              simp only [qs0m65_X4_faultOf_33_tTx, if_neg c_65] at hJ_65
              exact ev_loc hJ_65 cw_le0
          simp only [qs0m56_X4_faultOf_33_tTx, if_pos c_56] at hJ_56
          exact ev_loc hJ_56 cw_le0
      refine ev_istore_4 (pc := 73) dX4_faultOf_73 (by decide) rfl ?_
      refine ev_iload_n (pc := 75) dX4_faultOf_75 rfl ?_
      refine ev_sipush (pc := 76) (v := 400) dX4_faultOf_76 (by decide) ?_
      refine ev_cut (pj := 96) (Lj := [some (.ref (cw_z g + 33)), some (.int x1), some (.int x2), some (.int (qs0m32_X4_faultOf_33_tTx n I A J t x1 x2)), some (.int (qs0m56_X4_faultOf_33_tTx n I A J t x1 x2))]) (stj := [(.int (qs0m79_X4_faultOf_33_tTx n I A J t x1 x2))]) (σj := hp g I A J (true, t.2)) ?_ (fun hJ_79 => ?_)
      rotate_left
      · refine ev_icmp_ge (pc := 79) (tgt := 91) dX4_faultOf_79 (by decide) (fun c_79 => ?_) (fun c_79 => ?_)
        · refine ev_iconst (pc := 91) (v := 2) dX4_faultOf_91 (by decide) ?_
          refine ev_goto (pc := 92) (tgt := 96) dX4_faultOf_92 (by decide) ?_
          simp only [qs0m79_X4_faultOf_33_tTx, if_pos c_79] at hJ_79
          exact ev_loc hJ_79 cw_le0
        · refine ev_iload_n (pc := 82) dX4_faultOf_82 rfl ?_
          refine ev_cut (pj := 96) (Lj := [some (.ref (cw_z g + 33)), some (.int x1), some (.int x2), some (.int (qs0m32_X4_faultOf_33_tTx n I A J t x1 x2)), some (.int (qs0m56_X4_faultOf_33_tTx n I A J t x1 x2))]) (stj := [(.int (qs0m83_X4_faultOf_33_tTx n I A J t x1 x2))]) (σj := hp g I A J (true, t.2)) ?_ (fun hJ_83 => ?_)
          rotate_left
          · refine ev_if_ne (pc := 83) (tgt := 91) dX4_faultOf_83 (by decide) (fun c_83 => ?_) (fun c_83 => ?_)
            · refine ev_iconst (pc := 91) (v := 2) dX4_faultOf_91 (by decide) ?_
              refine ev_goto (pc := 92) (tgt := 96) dX4_faultOf_92 (by decide) ?_
              simp only [qs0m83_X4_faultOf_33_tTx, if_neg c_83] at hJ_83
              exact ev_loc hJ_83 cw_le0
            · refine ev_iload (pc := 86) dX4_faultOf_86 rfl ?_
              refine ev_cut (pj := 96) (Lj := [some (.ref (cw_z g + 33)), some (.int x1), some (.int x2), some (.int (qs0m32_X4_faultOf_33_tTx n I A J t x1 x2)), some (.int (qs0m56_X4_faultOf_33_tTx n I A J t x1 x2))]) (stj := [(.int (qs0m88_X4_faultOf_33_tTx n I A J t x1 x2))]) (σj := hp g I A J (true, t.2)) ?_ (fun hJ_88 => ?_)
              rotate_left
              · refine ev_if_eq (pc := 88) (tgt := 95) dX4_faultOf_88 (by decide) (fun c_88 => ?_) (fun c_88 => ?_)
                · refine ev_iconst (pc := 95) (v := 0) dX4_faultOf_95 (by decide) ?_
                  simp only [qs0m88_X4_faultOf_33_tTx, if_pos c_88] at hJ_88
                  exact ev_loc hJ_88 cw_le0
                · refine ev_iconst (pc := 91) (v := 2) dX4_faultOf_91 (by decide) ?_
                  refine ev_goto (pc := 92) (tgt := 96) dX4_faultOf_92 (by decide) ?_
                  simp only [qs0m88_X4_faultOf_33_tTx, if_neg c_88] at hJ_88
                  exact ev_loc hJ_88 cw_le0
              simp only [qs0m83_X4_faultOf_33_tTx, if_pos c_83] at hJ_83
              exact ev_loc hJ_83 cw_le0
          simp only [qs0m79_X4_faultOf_33_tTx, if_neg c_79] at hJ_79
          exact ev_loc hJ_79 cw_le0
      exact ev_iret (pc := 96) dX4_faultOf_96 rfl (by decide) (by decide) (hQ _ _ ⟨rfl, rfl⟩)
    · try simp only [if_pos c_23] at hQ
      refine ev_iconst (pc := 26) (v := 1) dX4_faultOf_26 (by decide) ?_
      exact ev_iret (pc := 27) dX4_faultOf_27 rfl (by decide) (by decide) (hQ _ _ ⟨rfl, rfl⟩)
  · try simp only [if_pos c_1] at hQ
    refine ev_aload_n (pc := 4) dX4_faultOf_4 rfl ?_
    refine tv_geti (pc := 5) dX4_faultOf_5 fl_X4_33 (by decide) rfl rfl ?_
    refine ev_cut (pj := 16) (Lj := [some (.ref (cw_z g + 33)), some (.int x1), some (.int x2), none, none]) (stj := [(.int (qs0m8_X4_faultOf_33_tTx n I A J t x1 x2))]) (σj := hp g I A J (true, t.2)) ?_ (fun hJ_8 => ?_)
    rotate_left
    · refine ev_if_ne (pc := 8) (tgt := 15) dX4_faultOf_8 (by decide) (fun c_8 => ?_) (fun c_8 => ?_)
      · refine ev_iconst (pc := 15) (v := 1) dX4_faultOf_15 (by decide) ?_
        simp only [qs0m8_X4_faultOf_33_tTx, if_neg c_8] at hJ_8
        exact ev_loc hJ_8 cw_le0
      · refine ev_iconst (pc := 11) (v := 0) dX4_faultOf_11 (by decide) ?_
        refine ev_goto (pc := 12) (tgt := 16) dX4_faultOf_12 (by decide) ?_
        simp only [qs0m8_X4_faultOf_33_tTx, if_pos c_8] at hJ_8
        exact ev_loc hJ_8 cw_le0
    exact ev_iret (pc := 16) dX4_faultOf_16 rfl (by decide) (by decide) (hQ _ _ ⟨rfl, rfl⟩)

def qI13_X4_takeUnit_33_tTx (n : Nat) (I : Nat → Nat → Int32) (A : Nat → Nat → Int32) (J : Nat → Nat → Int64) (t : Bool × Bool) (x1 : Int32) : Nat → Nat → Int32 := cw_u I 33 5 ((I 33 5) + 1)
def qIm3_X4_takeUnit_33_tTx (n : Nat) (I : Nat → Nat → Int32) (A : Nat → Nat → Int32) (J : Nat → Nat → Int64) (t : Bool × Bool) (x1 : Int32) : Nat → Nat → Int32 := if x1 = 11 then (pI_X4_putOff_33 n (qI13_X4_takeUnit_33_tTx n I A J t x1) A J (true, t.2) 11) else (pI_X10_addStep_60 n I A J (true, t.2) x1 (I 34 5))
def qAm3_X4_takeUnit_33_tTx (n : Nat) (I : Nat → Nat → Int32) (A : Nat → Nat → Int32) (J : Nat → Nat → Int64) (t : Bool × Bool) (x1 : Int32) : Nat → Nat → Int32 := if x1 = 11 then (pA_X4_putOff_33 n (qI13_X4_takeUnit_33_tTx n I A J t x1) A J (true, t.2) 11) else (pA_X10_addStep_60 n I A J (true, t.2) x1 (I 34 5))
def pb_X4_takeUnit_33_tTx (n : Nat) (I : Nat → Nat → Int32) (A : Nat → Nat → Int32) (J : Nat → Nat → Int64) (t : Bool × Bool) (x1 : Int32) : Prop := (¬ x1 = 11 → pb_X10_addStep_60 n I A J (true, t.2) x1 (I 34 5)) ∧ (x1 = 11 → pb_X4_putOff_33 n (qI13_X4_takeUnit_33_tTx n I A J t x1) A J (true, t.2) 11)
def pI_X4_takeUnit_33_tTx (n : Nat) (I : Nat → Nat → Int32) (A : Nat → Nat → Int32) (J : Nat → Nat → Int64) (t : Bool × Bool) (x1 : Int32) : Nat → Nat → Int32 := (qIm3_X4_takeUnit_33_tTx n I A J t x1)
def pA_X4_takeUnit_33_tTx (n : Nat) (I : Nat → Nat → Int32) (A : Nat → Nat → Int32) (J : Nat → Nat → Int64) (t : Bool × Bool) (x1 : Int32) : Nat → Nat → Int32 := (qAm3_X4_takeUnit_33_tTx n I A J t x1)
set_option maxRecDepth 100000 in
set_option maxHeartbeats 4000000 in
theorem cv_X4_takeUnit_33_tTx (g : cw_G) (n : Nat) (I : Nat → Nat → Int32) (A : Nat → Nat → Int32) (J : Nat → Nat → Int64) (t : Bool × Bool) (x1 : Int32) (hb : pb_X4_takeUnit_33_tTx n I A J t x1) : Cd g mX4_takeUnit [(.ref (cw_z g + 33)), (.int x1)] (hp g I A J (true, t.2)) none (hp g (pI_X4_takeUnit_33_tTx n I A J t x1) (pA_X4_takeUnit_33_tTx n I A J t x1) J (true, t.2)) := by
  unfold pb_X4_takeUnit_33_tTx at hb
  unfold pI_X4_takeUnit_33_tTx pA_X4_takeUnit_33_tTx
  refine Cd.of rfl (Nat.le_of_ble_eq_true rfl) (ev_gen (fun Q hQ => ?_))
  refine ev_iload_n (pc := 0) dX4_takeUnit_0 rfl ?_
  refine ev_bipush (pc := 1) (v := 11) dX4_takeUnit_1 (by decide) ?_
  obtain ⟨hT_3, hF_3⟩ := hb
  refine ev_cut (pj := 40) (Lj := [some (.ref (cw_z g + 33)), some (.int x1)]) (stj := []) (σj := hp g (qIm3_X4_takeUnit_33_tTx n I A J t x1) (qAm3_X4_takeUnit_33_tTx n I A J t x1) J (true, t.2)) ?_ (fun hJ_3 => ?_)
  rotate_left
  · refine ev_icmp_ne (pc := 3) (tgt := 25) dX4_takeUnit_3 (by decide) (fun c_3 => ?_) (fun c_3 => ?_)
    · have hb := hT_3 c_3
      refine ev_aload_n (pc := 25) dX4_takeUnit_25 rfl ?_
      refine tv_getr (pc := 26) (d := 60) dX4_takeUnit_26 fl_X4_25 (by decide) rfl rfl ?_
      refine ev_iload_n (pc := 29) dX4_takeUnit_29 rfl ?_
      refine ev_aload_n (pc := 30) dX4_takeUnit_30 rfl ?_
      refine tv_getr (pc := 31) (d := 34) dX4_takeUnit_31 fl_X4_12 (by decide) rfl rfl ?_
      refine tv_geti (pc := 34) dX4_takeUnit_34 fl_X4_102 (by decide) rfl rfl ?_
      refine ev_Vv (pc := 37) dX4_takeUnit_37 lk_X4_121 cd_X10_addStep ar_X10_addStep ⟨by decide, rfl, rfl⟩ (cv_X10_addStep_60 g n I A J (true, t.2) x1 (I 34 5) hb) (show 60 < 120 by decide) rfl rfl rfl rfl (Nat.le_of_ble_eq_true rfl) ⟨by decide, by decide⟩ ?_
      simp only [qIm3_X4_takeUnit_33_tTx, qAm3_X4_takeUnit_33_tTx, if_neg c_3] at hJ_3
      exact ev_loc hJ_3 cw_le0
    · have hb := hF_3 c_3
      refine ev_aload_n (pc := 6) dX4_takeUnit_6 rfl ?_
      refine ev_dup (pc := 7) dX4_takeUnit_7 rfl ?_
      refine tv_geti (pc := 8) dX4_takeUnit_8 fl_X4_36 (by decide) rfl rfl ?_
      refine ev_iconst (pc := 11) (v := 1) dX4_takeUnit_11 (by decide) ?_
      refine ev_iadd (pc := 12) dX4_takeUnit_12 ?_
      refine tw_puti (pc := 13) (I2 := (qI13_X4_takeUnit_33_tTx n I A J t x1)) dX4_takeUnit_13 fp_X4_36 (by decide) rfl rfl rfl ?_
      refine ev_aload_n (pc := 16) dX4_takeUnit_16 rfl ?_
      refine ev_bipush (pc := 17) (v := 11) dX4_takeUnit_17 (by decide) ?_
      refine ev_Vv (pc := 19) dX4_takeUnit_19 lk_X4_118 cd_X4_putOff ar_X4_putOff ⟨by decide, rfl, rfl⟩ (cv_X4_putOff_33 g n (qI13_X4_takeUnit_33_tTx n I A J t x1) A J (true, t.2) 11 hb) (show 33 < 120 by decide) rfl rfl rfl rfl (Nat.le_of_ble_eq_true rfl) ⟨by decide, by decide⟩ ?_
      refine ev_goto (pc := 22) (tgt := 40) dX4_takeUnit_22 (by decide) ?_
      simp only [qIm3_X4_takeUnit_33_tTx, qAm3_X4_takeUnit_33_tTx, if_pos c_3] at hJ_3
      exact ev_loc hJ_3 cw_le0
  exact ev_vret (pc := 40) dX4_takeUnit_40 rfl (by decide) (by decide) (hQ _ _ ⟨rfl, rfl⟩)

def q8_X4_release_33_tTx (n : Nat) (I : Nat → Nat → Int32) (A : Nat → Nat → Int32) (J : Nat → Nat → Int64) (t : Bool × Bool) (x1 : Int32) : Int32 := (px_J9_max_7cf53 n I A J (true, t.2) (px_X4_rank n I A J (true, t.2) x1) 1)
def q15_X4_release_33_tTx (n : Nat) (I : Nat → Nat → Int32) (A : Nat → Nat → Int32) (J : Nat → Nat → Int64) (t : Bool × Bool) (x1 : Int32) : Int32 := ((I 33 3) - 1)
def qI49_X4_release_33_tTx (n : Nat) (I : Nat → Nat → Int32) (A : Nat → Nat → Int32) (J : Nat → Nat → Int64) (t : Bool × Bool) (x1 : Int32) (I16 : Nat → Nat → Int32) (A16 : Nat → Nat → Int32) (v16_3 : Int32) : Nat → Nat → Int32 := cw_u (pI_X10_addStep_60 n I16 A16 J (true, t.2) (A16 36 (v16_3).toNatClampNeg) 0) 33 3 v16_3
def q52_X4_release_33_tTx (n : Nat) (I : Nat → Nat → Int32) (A : Nat → Nat → Int32) (J : Nat → Nat → Int64) (t : Bool × Bool) (x1 : Int32) (I16 : Nat → Nat → Int32) (A16 : Nat → Nat → Int32) (v16_3 : Int32) : Int32 := v16_3 + (-1)
def lp_X4_release_33_tTx_16 (n : Nat) (I : Nat → Nat → Int32) (A : Nat → Nat → Int32) (J : Nat → Nat → Int64) (t : Bool × Bool) (x1 : Int32) : Nat → (Nat → Nat → Int32) → (Nat → Nat → Int32) → (Int32) → (Nat → Nat → Int32) × (Nat → Nat → Int32) × Int32
  | 0, I16, A16, v16_3 => (I16, A16, v16_3)
  | f + 1, I16, A16, v16_3 => if v16_3 < 0 then (I16, A16, v16_3) else if (px_X4_rank n I16 A16 J (true, t.2) (A16 36 (v16_3).toNatClampNeg)) < (q8_X4_release_33_tTx n I A J t x1) then (I16, A16, v16_3) else lp_X4_release_33_tTx_16 n I A J t x1 f (qI49_X4_release_33_tTx n I A J t x1 I16 A16 v16_3) (pA_X10_addStep_60 n I16 A16 J (true, t.2) (A16 36 (v16_3).toNatClampNeg) 0) (q52_X4_release_33_tTx n I A J t x1 I16 A16 v16_3)
def lb_X4_release_33_tTx_16 (n : Nat) (I : Nat → Nat → Int32) (A : Nat → Nat → Int32) (J : Nat → Nat → Int64) (t : Bool × Bool) (x1 : Int32) : Nat → (Nat → Nat → Int32) → (Nat → Nat → Int32) → (Int32) → Prop
  | 0, _, _, _ => False
  | f + 1, I16, A16, v16_3 => (¬ v16_3 < 0 → vp_in v16_3 22 ∧ (¬ (px_X4_rank n I16 A16 J (true, t.2) (A16 36 (v16_3).toNatClampNeg)) < (q8_X4_release_33_tTx n I A J t x1) → vp_in v16_3 22 ∧ pb_X10_addStep_60 n I16 A16 J (true, t.2) (A16 36 (v16_3).toNatClampNeg) 0 ∧ lb_X4_release_33_tTx_16 n I A J t x1 f (qI49_X4_release_33_tTx n I A J t x1 I16 A16 v16_3) (pA_X10_addStep_60 n I16 A16 J (true, t.2) (A16 36 (v16_3).toNatClampNeg) 0) (q52_X4_release_33_tTx n I A J t x1 I16 A16 v16_3)))
def qIw16_X4_release_33_tTx (n : Nat) (I : Nat → Nat → Int32) (A : Nat → Nat → Int32) (J : Nat → Nat → Int64) (t : Bool × Bool) (x1 : Int32) : Nat → Nat → Int32 := (lp_X4_release_33_tTx_16 n I A J t x1 n I A (q15_X4_release_33_tTx n I A J t x1)).1
def qAw16_X4_release_33_tTx (n : Nat) (I : Nat → Nat → Int32) (A : Nat → Nat → Int32) (J : Nat → Nat → Int64) (t : Bool × Bool) (x1 : Int32) : Nat → Nat → Int32 := (lp_X4_release_33_tTx_16 n I A J t x1 n I A (q15_X4_release_33_tTx n I A J t x1)).2.1
def q3w16_X4_release_33_tTx (n : Nat) (I : Nat → Nat → Int32) (A : Nat → Nat → Int32) (J : Nat → Nat → Int64) (t : Bool × Bool) (x1 : Int32) : Int32 := (lp_X4_release_33_tTx_16 n I A J t x1 n I A (q15_X4_release_33_tTx n I A J t x1)).2.2
def pb_X4_release_33_tTx (n : Nat) (I : Nat → Nat → Int32) (A : Nat → Nat → Int32) (J : Nat → Nat → Int64) (t : Bool × Bool) (x1 : Int32) : Prop := lb_X4_release_33_tTx_16 n I A J t x1 n I A (q15_X4_release_33_tTx n I A J t x1)
def pI_X4_release_33_tTx (n : Nat) (I : Nat → Nat → Int32) (A : Nat → Nat → Int32) (J : Nat → Nat → Int64) (t : Bool × Bool) (x1 : Int32) : Nat → Nat → Int32 := (qIw16_X4_release_33_tTx n I A J t x1)
def pA_X4_release_33_tTx (n : Nat) (I : Nat → Nat → Int32) (A : Nat → Nat → Int32) (J : Nat → Nat → Int64) (t : Bool × Bool) (x1 : Int32) : Nat → Nat → Int32 := (qAw16_X4_release_33_tTx n I A J t x1)
set_option maxRecDepth 100000 in
set_option maxHeartbeats 4000000 in
theorem lt_X4_release_33_tTx_16 (g : cw_G) (n : Nat) (I : Nat → Nat → Int32) (A : Nat → Nat → Int32) (J : Nat → Nat → Int64) (t : Bool × Bool) (x1 : Int32) {Q : Option Value → cw_H → Prop} : ∀ (f : Nat) (I16 : Nat → Nat → Int32) (A16 : Nat → Nat → Int32) (v16_3 : Int32) (w0 : Nat → Nat → Int32) (w1 : Nat → Nat → Int32) (w2 : Int32), lb_X4_release_33_tTx_16 n I A J t x1 f I16 A16 v16_3 → (lp_X4_release_33_tTx_16 n I A J t x1 f I16 A16 v16_3).1 = w0 → (lp_X4_release_33_tTx_16 n I A J t x1 f I16 A16 v16_3).2.1 = w1 → (lp_X4_release_33_tTx_16 n I A J t x1 f I16 A16 v16_3).2.2 = w2 → Ev g mX4_release 0 0 58 [some (.ref (cw_z g + 33)), some (.int x1), some (.int (q8_X4_release_33_tTx n I A J t x1)), some (.int w2)] [] (hp g w0 w1 J (true, t.2)) Q → Ev g mX4_release 0 0 16 [some (.ref (cw_z g + 33)), some (.int x1), some (.int (q8_X4_release_33_tTx n I A J t x1)), some (.int v16_3)] [] (hp g I16 A16 J (true, t.2)) Q := by
  intro f
  induction f with
  | zero =>
    intro I16 A16 v16_3 w0 w1 w2 hb
    exact hb.elim
  | succ f ih =>
    intro I16 A16 v16_3 w0 w1 w2 hb h0 h1 h2 hE
    rw [lb_X4_release_33_tTx_16] at hb
    rw [lp_X4_release_33_tTx_16] at h0 h1 h2
    refine ev_iload_n (pc := 16) dX4_release_16 rfl ?_
    have hF_17 := hb
    refine ev_if_lt (pc := 17) (tgt := 58) dX4_release_17 (by decide) (fun c_17 => ?_) (fun c_17 => ?_)
    · try simp only [if_pos c_17] at h0
      try simp only [if_pos c_17] at h1
      try simp only [if_pos c_17] at h2
      subst h0
      subst h1
      subst h2
      exact ev_loc hE cw_le0
    · have hb := hF_17 c_17
      try simp only [if_neg c_17] at h0
      try simp only [if_neg c_17] at h1
      try simp only [if_neg c_17] at h2
      refine ev_aload_n (pc := 20) dX4_release_20 rfl ?_
      refine tv_getr (pc := 21) (d := 36) dX4_release_21 fl_X4_18 (by decide) rfl rfl ?_
      refine ev_iload_n (pc := 24) dX4_release_24 rfl ?_
      refine ev_iald (pc := 25) dX4_release_25 (by decide) rfl hb.1 ?_
      replace hb := hb.2
      refine ev_Si (pc := 26) dX4_release_26 lk_X4_133 cd_X4_rank ar_X4_rank ⟨by decide, rfl, rfl⟩ (cv_X4_rank g n I16 A16 J (true, t.2) (A16 36 (v16_3).toNatClampNeg)) rfl rfl (Nat.le_of_ble_eq_true rfl) ⟨by decide, by decide⟩ ?_
      refine ev_iload_n (pc := 29) dX4_release_29 rfl ?_
      have hF_30 := hb
      refine ev_icmp_lt (pc := 30) (tgt := 58) dX4_release_30 (by decide) (fun c_30 => ?_) (fun c_30 => ?_)
      · try simp only [if_pos c_30] at h0
        try simp only [if_pos c_30] at h1
        try simp only [if_pos c_30] at h2
        subst h0
        subst h1
        subst h2
        exact ev_loc hE cw_le0
      · have hb := hF_30 c_30
        try simp only [if_neg c_30] at h0
        try simp only [if_neg c_30] at h1
        try simp only [if_neg c_30] at h2
        refine ev_aload_n (pc := 33) dX4_release_33 rfl ?_
        refine tv_getr (pc := 34) (d := 60) dX4_release_34 fl_X4_25 (by decide) rfl rfl ?_
        refine ev_aload_n (pc := 37) dX4_release_37 rfl ?_
        refine tv_getr (pc := 38) (d := 36) dX4_release_38 fl_X4_18 (by decide) rfl rfl ?_
        refine ev_iload_n (pc := 41) dX4_release_41 rfl ?_
        refine ev_iald (pc := 42) dX4_release_42 (by decide) rfl hb.1 ?_
        replace hb := hb.2
        refine ev_iconst (pc := 43) (v := 0) dX4_release_43 (by decide) ?_
        refine ev_Vv (pc := 44) dX4_release_44 lk_X4_121 cd_X10_addStep ar_X10_addStep ⟨by decide, rfl, rfl⟩ (cv_X10_addStep_60 g n I16 A16 J (true, t.2) (A16 36 (v16_3).toNatClampNeg) 0 hb.1) (show 60 < 120 by decide) rfl rfl rfl rfl (Nat.le_of_ble_eq_true rfl) ⟨by decide, by decide⟩ ?_
        replace hb := hb.2
        refine ev_aload_n (pc := 47) dX4_release_47 rfl ?_
        refine ev_iload_n (pc := 48) dX4_release_48 rfl ?_
        refine tw_puti (pc := 49) (I2 := (qI49_X4_release_33_tTx n I A J t x1 I16 A16 v16_3)) dX4_release_49 fp_X4_29 (by decide) rfl rfl rfl ?_
        refine ev_iinc_3 (pc := 52) (v := (q52_X4_release_33_tTx n I A J t x1 I16 A16 v16_3)) dX4_release_52 (by decide) rfl rfl ?_
        refine ev_goto (pc := 55) (tgt := 16) dX4_release_55 (by decide) ?_
        exact ev_loc (ih (qI49_X4_release_33_tTx n I A J t x1 I16 A16 v16_3) (pA_X10_addStep_60 n I16 A16 J (true, t.2) (A16 36 (v16_3).toNatClampNeg) 0) (q52_X4_release_33_tTx n I A J t x1 I16 A16 v16_3) w0 w1 w2 hb h0 h1 h2 hE) cw_le0

set_option maxRecDepth 100000 in
set_option maxHeartbeats 4000000 in
theorem cv_X4_release_33_tTx (g : cw_G) (n : Nat) (I : Nat → Nat → Int32) (A : Nat → Nat → Int32) (J : Nat → Nat → Int64) (t : Bool × Bool) (x1 : Int32) (hb : pb_X4_release_33_tTx n I A J t x1) : Cd g mX4_release [(.ref (cw_z g + 33)), (.int x1)] (hp g I A J (true, t.2)) none (hp g (pI_X4_release_33_tTx n I A J t x1) (pA_X4_release_33_tTx n I A J t x1) J (true, t.2)) := by
  unfold pb_X4_release_33_tTx at hb
  unfold pI_X4_release_33_tTx pA_X4_release_33_tTx
  refine Cd.of rfl (Nat.le_of_ble_eq_true rfl) (ev_gen (fun Q hQ => ?_))
  refine ev_iload_n (pc := 0) dX4_release_0 rfl ?_
  refine ev_Si (pc := 1) dX4_release_1 lk_X4_133 cd_X4_rank ar_X4_rank ⟨by decide, rfl, rfl⟩ (cv_X4_rank g n I A J (true, t.2) x1) rfl rfl (Nat.le_of_ble_eq_true rfl) ⟨by decide, by decide⟩ ?_
  refine ev_iconst (pc := 4) (v := 1) dX4_release_4 (by decide) ?_
  refine ev_Si (pc := 5) dX4_release_5 lk_X4_128 cd_J9_max_7cf53 ar_J9_max_7cf53 ⟨by decide, rfl, rfl⟩ (cv_J9_max_7cf53 g n I A J (true, t.2) (px_X4_rank n I A J (true, t.2) x1) 1) rfl rfl (Nat.le_of_ble_eq_true rfl) ⟨by decide, by decide⟩ ?_
  refine ev_is (y := (q8_X4_release_33_tTx n I A J t x1)) rfl ?_
  refine ev_istore_2 (pc := 8) dX4_release_8 (by decide) rfl ?_
  refine ev_aload_n (pc := 9) dX4_release_9 rfl ?_
  refine tv_geti (pc := 10) dX4_release_10 fl_X4_29 (by decide) rfl rfl ?_
  refine ev_iconst (pc := 13) (v := 1) dX4_release_13 (by decide) ?_
  refine ev_isub (pc := 14) dX4_release_14 ?_
  refine ev_is (y := (q15_X4_release_33_tTx n I A J t x1)) rfl ?_
  refine ev_istore_3 (pc := 15) dX4_release_15 (by decide) rfl ?_
  refine lt_X4_release_33_tTx_16 g n I A J t x1 n I A (q15_X4_release_33_tTx n I A J t x1) (qIw16_X4_release_33_tTx n I A J t x1) (qAw16_X4_release_33_tTx n I A J t x1) (q3w16_X4_release_33_tTx n I A J t x1) hb rfl rfl rfl ?_
  exact ev_vret (pc := 58) dX4_release_58 rfl (by decide) (by decide) (hQ _ _ ⟨rfl, rfl⟩)

def qs1m69_X4_takeSign_33_tTx (n : Nat) (I : Nat → Nat → Int32) (A : Nat → Nat → Int32) (J : Nat → Nat → Int64) (t : Bool × Bool) (x1 : Int32) : Int32 := if (px_X4_isRelation n (pI_X4_release_33_tTx n I A J (true, t.2) x1) (pA_X4_release_33_tTx n I A J (true, t.2) x1) J (true, t.2) x1) = 0 then 0 else 1
def qs1m62_X4_takeSign_33_tTx (n : Nat) (I : Nat → Nat → Int32) (A : Nat → Nat → Int32) (J : Nat → Nat → Int64) (t : Bool × Bool) (x1 : Int32) : Int32 := if ((pI_X4_release_33_tTx n I A J (true, t.2) x1) 33 6) = 0 then (qs1m69_X4_takeSign_33_tTx n I A J t x1) else 1
def qI77_X4_takeSign_33_tTx (n : Nat) (I : Nat → Nat → Int32) (A : Nat → Nat → Int32) (J : Nat → Nat → Int64) (t : Bool × Bool) (x1 : Int32) : Nat → Nat → Int32 := cw_u (pI_X4_release_33_tTx n I A J (true, t.2) x1) 33 6 (qs1m62_X4_takeSign_33_tTx n I A J t x1)
def qIm54_X4_takeSign_33_tTx (n : Nat) (I : Nat → Nat → Int32) (A : Nat → Nat → Int32) (J : Nat → Nat → Int64) (t : Bool × Bool) (x1 : Int32) : Nat → Nat → Int32 := if x1 = 3 then (pI_X4_release_33_tTx n I A J (true, t.2) x1) else (pI_X4_putOff_33 n (qI77_X4_takeSign_33_tTx n I A J t x1) (pA_X4_release_33_tTx n I A J (true, t.2) x1) J (true, t.2) x1)
def qAm54_X4_takeSign_33_tTx (n : Nat) (I : Nat → Nat → Int32) (A : Nat → Nat → Int32) (J : Nat → Nat → Int64) (t : Bool × Bool) (x1 : Int32) : Nat → Nat → Int32 := if x1 = 3 then (pA_X4_release_33_tTx n I A J (true, t.2) x1) else (pA_X4_putOff_33 n (qI77_X4_takeSign_33_tTx n I A J t x1) (pA_X4_release_33_tTx n I A J (true, t.2) x1) J (true, t.2) x1)
def qI46_X4_takeSign_33_tTx (n : Nat) (I : Nat → Nat → Int32) (A : Nat → Nat → Int32) (J : Nat → Nat → Int64) (t : Bool × Bool) (x1 : Int32) : Nat → Nat → Int32 := cw_u (pI_X4_release_33_tTx n I A J (true, t.2) x1) 33 6 0
def qIm41_X4_takeSign_33_tTx (n : Nat) (I : Nat → Nat → Int32) (A : Nat → Nat → Int32) (J : Nat → Nat → Int64) (t : Bool × Bool) (x1 : Int32) : Nat → Nat → Int32 := if x1 = 19 then (qI46_X4_takeSign_33_tTx n I A J t x1) else (qIm54_X4_takeSign_33_tTx n I A J t x1)
def qAm41_X4_takeSign_33_tTx (n : Nat) (I : Nat → Nat → Int32) (A : Nat → Nat → Int32) (J : Nat → Nat → Int64) (t : Bool × Bool) (x1 : Int32) : Nat → Nat → Int32 := if x1 = 19 then (pA_X4_release_33_tTx n I A J (true, t.2) x1) else (qAm54_X4_takeSign_33_tTx n I A J t x1)
def qI18_X4_takeSign_33_tTx (n : Nat) (I : Nat → Nat → Int32) (A : Nat → Nat → Int32) (J : Nat → Nat → Int64) (t : Bool × Bool) (x1 : Int32) : Nat → Nat → Int32 := cw_u (pI_X4_release_33_tTx n I A J (true, t.2) x1) 33 5 (((pI_X4_release_33_tTx n I A J (true, t.2) x1) 33 5) - 1)
def qI32_X4_takeSign_33_tTx (n : Nat) (I : Nat → Nat → Int32) (A : Nat → Nat → Int32) (J : Nat → Nat → Int64) (t : Bool × Bool) (x1 : Int32) : Nat → Nat → Int32 := cw_u (qI18_X4_takeSign_33_tTx n I A J t x1) 33 3 (px_J9_max_7cf53 n (qI18_X4_takeSign_33_tTx n I A J t x1) (pA_X4_release_33_tTx n I A J (true, t.2) x1) J (true, t.2) (((qI18_X4_takeSign_33_tTx n I A J t x1) 33 3) - 1) 0)
def qIm8_X4_takeSign_33_tTx (n : Nat) (I : Nat → Nat → Int32) (A : Nat → Nat → Int32) (J : Nat → Nat → Int64) (t : Bool × Bool) (x1 : Int32) : Nat → Nat → Int32 := if x1 = 12 then (qI32_X4_takeSign_33_tTx n I A J t x1) else (qIm41_X4_takeSign_33_tTx n I A J t x1)
def qAm8_X4_takeSign_33_tTx (n : Nat) (I : Nat → Nat → Int32) (A : Nat → Nat → Int32) (J : Nat → Nat → Int64) (t : Bool × Bool) (x1 : Int32) : Nat → Nat → Int32 := if x1 = 12 then (pA_X4_release_33_tTx n I A J (true, t.2) x1) else (qAm41_X4_takeSign_33_tTx n I A J t x1)
def pb_X4_takeSign_33_tTx (n : Nat) (I : Nat → Nat → Int32) (A : Nat → Nat → Int32) (J : Nat → Nat → Int64) (t : Bool × Bool) (x1 : Int32) : Prop := pb_X4_release_33_tTx n I A J (true, t.2) x1 ∧ (¬ x1 = 12 → (¬ x1 = 19 → (¬ x1 = 3 → ((qs1m62_X4_takeSign_33_tTx n I A J t x1) = 0 ∨ (qs1m62_X4_takeSign_33_tTx n I A J t x1) = 1) ∧ pb_X4_putOff_33 n (qI77_X4_takeSign_33_tTx n I A J t x1) (pA_X4_release_33_tTx n I A J (true, t.2) x1) J (true, t.2) x1)))
def pI_X4_takeSign_33_tTx (n : Nat) (I : Nat → Nat → Int32) (A : Nat → Nat → Int32) (J : Nat → Nat → Int64) (t : Bool × Bool) (x1 : Int32) : Nat → Nat → Int32 := (qIm8_X4_takeSign_33_tTx n I A J t x1)
def pA_X4_takeSign_33_tTx (n : Nat) (I : Nat → Nat → Int32) (A : Nat → Nat → Int32) (J : Nat → Nat → Int64) (t : Bool × Bool) (x1 : Int32) : Nat → Nat → Int32 := (qAm8_X4_takeSign_33_tTx n I A J t x1)
set_option maxRecDepth 100000 in
set_option maxHeartbeats 4000000 in
theorem cv_X4_takeSign_33_tTx (g : cw_G) (n : Nat) (I : Nat → Nat → Int32) (A : Nat → Nat → Int32) (J : Nat → Nat → Int64) (t : Bool × Bool) (x1 : Int32) (hb : pb_X4_takeSign_33_tTx n I A J t x1) : Cd g mX4_takeSign [(.ref (cw_z g + 33)), (.int x1)] (hp g I A J (true, t.2)) none (hp g (pI_X4_takeSign_33_tTx n I A J t x1) (pA_X4_takeSign_33_tTx n I A J t x1) J (true, t.2)) := by
  unfold pb_X4_takeSign_33_tTx at hb
  unfold pI_X4_takeSign_33_tTx pA_X4_takeSign_33_tTx
  refine Cd.of rfl (Nat.le_of_ble_eq_true rfl) (ev_gen (fun Q hQ => ?_))
  refine ev_aload_n (pc := 0) dX4_takeSign_0 rfl ?_
  refine ev_iload_n (pc := 1) dX4_takeSign_1 rfl ?_
  refine ev_Vv (pc := 2) dX4_takeSign_2 lk_X4_125 cd_X4_release ar_X4_release ⟨by decide, rfl, rfl⟩ (cv_X4_release_33_tTx g n I A J (true, t.2) x1 hb.1) (show 33 < 120 by decide) rfl rfl rfl rfl (Nat.le_of_ble_eq_true rfl) ⟨by decide, by decide⟩ ?_
  replace hb := hb.2
  refine ev_iload_n (pc := 5) dX4_takeSign_5 rfl ?_
  refine ev_bipush (pc := 6) (v := 12) dX4_takeSign_6 (by decide) ?_
  have hT_8 := hb
  refine ev_cut (pj := 85) (Lj := [some (.ref (cw_z g + 33)), some (.int x1)]) (stj := []) (σj := hp g (qIm8_X4_takeSign_33_tTx n I A J t x1) (qAm8_X4_takeSign_33_tTx n I A J t x1) J (true, t.2)) ?_ (fun hJ_8 => ?_)
  rotate_left
  · refine ev_icmp_ne (pc := 8) (tgt := 38) dX4_takeSign_8 (by decide) (fun c_8 => ?_) (fun c_8 => ?_)
    · have hb := hT_8 c_8
      refine ev_iload_n (pc := 38) dX4_takeSign_38 rfl ?_
      refine ev_bipush (pc := 39) (v := 19) dX4_takeSign_39 (by decide) ?_
      have hT_41 := hb
      refine ev_cut (pj := 85) (Lj := [some (.ref (cw_z g + 33)), some (.int x1)]) (stj := []) (σj := hp g (qIm41_X4_takeSign_33_tTx n I A J t x1) (qAm41_X4_takeSign_33_tTx n I A J t x1) J (true, t.2)) ?_ (fun hJ_41 => ?_)
      rotate_left
      · refine ev_icmp_ne (pc := 41) (tgt := 52) dX4_takeSign_41 (by decide) (fun c_41 => ?_) (fun c_41 => ?_)
        · have hb := hT_41 c_41
          refine ev_iload_n (pc := 52) dX4_takeSign_52 rfl ?_
          refine ev_iconst (pc := 53) (v := 3) dX4_takeSign_53 (by decide) ?_
          have hF_54 := hb
          refine ev_cut (pj := 85) (Lj := [some (.ref (cw_z g + 33)), some (.int x1)]) (stj := []) (σj := hp g (qIm54_X4_takeSign_33_tTx n I A J t x1) (qAm54_X4_takeSign_33_tTx n I A J t x1) J (true, t.2)) ?_ (fun hJ_54 => ?_)
          rotate_left
          · refine ev_icmp_eq (pc := 54) (tgt := 85) dX4_takeSign_54 (by decide) (fun c_54 => ?_) (fun c_54 => ?_)
            · simp only [qIm54_X4_takeSign_33_tTx, qAm54_X4_takeSign_33_tTx, if_pos c_54] at hJ_54
              exact ev_loc hJ_54 cw_le0
            · have hb := hF_54 c_54
              refine ev_aload_n (pc := 57) dX4_takeSign_57 rfl ?_
              refine ev_aload_n (pc := 58) dX4_takeSign_58 rfl ?_
              refine tv_geti (pc := 59) dX4_takeSign_59 fl_X4_39 (by decide) rfl rfl ?_
              refine ev_cut (pj := 77) (Lj := [some (.ref (cw_z g + 33)), some (.int x1)]) (stj := [(.int (qs1m62_X4_takeSign_33_tTx n I A J t x1)), (.ref (cw_z g + 33))]) (σj := hp g (pI_X4_release_33_tTx n I A J (true, t.2) x1) (pA_X4_release_33_tTx n I A J (true, t.2) x1) J (true, t.2)) ?_ (fun hJ_62 => ?_)
              rotate_left
              · refine ev_if_ne (pc := 62) (tgt := 72) dX4_takeSign_62 (by decide) (fun c_62 => ?_) (fun c_62 => ?_)
                · refine ev_iconst (pc := 72) (v := 1) dX4_takeSign_72 (by decide) ?_
                  refine ev_goto (pc := 73) (tgt := 77) dX4_takeSign_73 (by decide) ?_
                  simp only [qs1m62_X4_takeSign_33_tTx, if_neg c_62] at hJ_62
                  exact ev_loc hJ_62 cw_le0
                · refine ev_iload_n (pc := 65) dX4_takeSign_65 rfl ?_
                  refine ev_Si (pc := 66) dX4_takeSign_66 lk_X4_95 cd_X4_isRelation ar_X4_isRelation ⟨by decide, rfl, rfl⟩ (cv_X4_isRelation g n (pI_X4_release_33_tTx n I A J (true, t.2) x1) (pA_X4_release_33_tTx n I A J (true, t.2) x1) J (true, t.2) x1) rfl rfl (Nat.le_of_ble_eq_true rfl) ⟨by decide, by decide⟩ ?_
                  refine ev_cut (pj := 77) (Lj := [some (.ref (cw_z g + 33)), some (.int x1)]) (stj := [(.int (qs1m69_X4_takeSign_33_tTx n I A J t x1)), (.ref (cw_z g + 33))]) (σj := hp g (pI_X4_release_33_tTx n I A J (true, t.2) x1) (pA_X4_release_33_tTx n I A J (true, t.2) x1) J (true, t.2)) ?_ (fun hJ_69 => ?_)
                  rotate_left
                  · refine ev_if_eq (pc := 69) (tgt := 76) dX4_takeSign_69 (by decide) (fun c_69 => ?_) (fun c_69 => ?_)
                    · refine ev_iconst (pc := 76) (v := 0) dX4_takeSign_76 (by decide) ?_
                      simp only [qs1m69_X4_takeSign_33_tTx, if_pos c_69] at hJ_69
                      exact ev_loc hJ_69 cw_le0
                    · refine ev_iconst (pc := 72) (v := 1) dX4_takeSign_72 (by decide) ?_
                      refine ev_goto (pc := 73) (tgt := 77) dX4_takeSign_73 (by decide) ?_
                      simp only [qs1m69_X4_takeSign_33_tTx, if_neg c_69] at hJ_69
                      exact ev_loc hJ_69 cw_le0
                  simp only [qs1m62_X4_takeSign_33_tTx, if_pos c_62] at hJ_62
                  exact ev_loc hJ_62 cw_le0
              refine tw_putz (pc := 77) (I2 := (qI77_X4_takeSign_33_tTx n I A J t x1)) dX4_takeSign_77 fp_X4_39 (by decide) rfl rfl hb.1 rfl ?_
              replace hb := hb.2
              refine ev_aload_n (pc := 80) dX4_takeSign_80 rfl ?_
              refine ev_iload_n (pc := 81) dX4_takeSign_81 rfl ?_
              refine ev_Vv (pc := 82) dX4_takeSign_82 lk_X4_118 cd_X4_putOff ar_X4_putOff ⟨by decide, rfl, rfl⟩ (cv_X4_putOff_33 g n (qI77_X4_takeSign_33_tTx n I A J t x1) (pA_X4_release_33_tTx n I A J (true, t.2) x1) J (true, t.2) x1 hb) (show 33 < 120 by decide) rfl rfl rfl rfl (Nat.le_of_ble_eq_true rfl) ⟨by decide, by decide⟩ ?_
              simp only [qIm54_X4_takeSign_33_tTx, qAm54_X4_takeSign_33_tTx, if_neg c_54] at hJ_54
              exact ev_loc hJ_54 cw_le0
          simp only [qIm41_X4_takeSign_33_tTx, qAm41_X4_takeSign_33_tTx, if_neg c_41] at hJ_41
          exact ev_loc hJ_41 cw_le0
        · refine ev_aload_n (pc := 44) dX4_takeSign_44 rfl ?_
          refine ev_iconst (pc := 45) (v := 0) dX4_takeSign_45 (by decide) ?_
          refine tw_putz (pc := 46) (I2 := (qI46_X4_takeSign_33_tTx n I A J t x1)) dX4_takeSign_46 fp_X4_39 (by decide) rfl rfl (by simp) rfl ?_
          refine ev_goto (pc := 49) (tgt := 85) dX4_takeSign_49 (by decide) ?_
          simp only [qIm41_X4_takeSign_33_tTx, qAm41_X4_takeSign_33_tTx, if_pos c_41] at hJ_41
          exact ev_loc hJ_41 cw_le0
      simp only [qIm8_X4_takeSign_33_tTx, qAm8_X4_takeSign_33_tTx, if_neg c_8] at hJ_8
      exact ev_loc hJ_8 cw_le0
    · refine ev_aload_n (pc := 11) dX4_takeSign_11 rfl ?_
      refine ev_dup (pc := 12) dX4_takeSign_12 rfl ?_
      refine tv_geti (pc := 13) dX4_takeSign_13 fl_X4_36 (by decide) rfl rfl ?_
      refine ev_iconst (pc := 16) (v := 1) dX4_takeSign_16 (by decide) ?_
      refine ev_isub (pc := 17) dX4_takeSign_17 ?_
      refine tw_puti (pc := 18) (I2 := (qI18_X4_takeSign_33_tTx n I A J t x1)) dX4_takeSign_18 fp_X4_36 (by decide) rfl rfl rfl ?_
      refine ev_aload_n (pc := 21) dX4_takeSign_21 rfl ?_
      refine ev_aload_n (pc := 22) dX4_takeSign_22 rfl ?_
      refine tv_geti (pc := 23) dX4_takeSign_23 fl_X4_29 (by decide) rfl rfl ?_
      refine ev_iconst (pc := 26) (v := 1) dX4_takeSign_26 (by decide) ?_
      refine ev_isub (pc := 27) dX4_takeSign_27 ?_
      refine ev_iconst (pc := 28) (v := 0) dX4_takeSign_28 (by decide) ?_
      refine ev_Si (pc := 29) dX4_takeSign_29 lk_X4_128 cd_J9_max_7cf53 ar_J9_max_7cf53 ⟨by decide, rfl, rfl⟩ (cv_J9_max_7cf53 g n (qI18_X4_takeSign_33_tTx n I A J t x1) (pA_X4_release_33_tTx n I A J (true, t.2) x1) J (true, t.2) (((qI18_X4_takeSign_33_tTx n I A J t x1) 33 3) - 1) 0) rfl rfl (Nat.le_of_ble_eq_true rfl) ⟨by decide, by decide⟩ ?_
      refine tw_puti (pc := 32) (I2 := (qI32_X4_takeSign_33_tTx n I A J t x1)) dX4_takeSign_32 fp_X4_29 (by decide) rfl rfl rfl ?_
      refine ev_goto (pc := 35) (tgt := 85) dX4_takeSign_35 (by decide) ?_
      simp only [qIm8_X4_takeSign_33_tTx, qAm8_X4_takeSign_33_tTx, if_pos c_8] at hJ_8
      exact ev_loc hJ_8 cw_le0
  exact ev_vret (pc := 85) dX4_takeSign_85 rfl (by decide) (by decide) (hQ _ _ ⟨rfl, rfl⟩)

def q4_X4_take_33_tTx (n : Nat) (I : Nat → Nat → Int32) (A : Nat → Nat → Int32) (J : Nat → Nat → Int64) (t : Bool × Bool) (x1 : Int32) : Int32 := (I 33 4)
def qI11_X4_take_33_tTx (n : Nat) (I : Nat → Nat → Int32) (A : Nat → Nat → Int32) (J : Nat → Nat → Int64) (t : Bool × Bool) (x1 : Int32) : Nat → Nat → Int32 := cw_u I 33 4 (px_X4_stateBehind_33 n I A J (true, t.2) x1)
def qIm74_X4_take_33_tTx (n : Nat) (I : Nat → Nat → Int32) (A : Nat → Nat → Int32) (J : Nat → Nat → Int64) (t : Bool × Bool) (x1 : Int32) : Nat → Nat → Int32 := if (q4_X4_take_33_tTx n I A J t x1) = 8 then (pI_X4_takeSign_33_tTx n (qI11_X4_take_33_tTx n I A J t x1) A J (true, t.2) x1) else (qI11_X4_take_33_tTx n I A J t x1)
def qAm74_X4_take_33_tTx (n : Nat) (I : Nat → Nat → Int32) (A : Nat → Nat → Int32) (J : Nat → Nat → Int64) (t : Bool × Bool) (x1 : Int32) : Nat → Nat → Int32 := if (q4_X4_take_33_tTx n I A J t x1) = 8 then (pA_X4_takeSign_33_tTx n (qI11_X4_take_33_tTx n I A J t x1) A J (true, t.2) x1) else A
def qIm60_X4_take_33_tTx (n : Nat) (I : Nat → Nat → Int32) (A : Nat → Nat → Int32) (J : Nat → Nat → Int64) (t : Bool × Bool) (x1 : Int32) : Nat → Nat → Int32 := if (q4_X4_take_33_tTx n I A J t x1) = 7 then (pI_X4_takeUnit_33_tTx n (qI11_X4_take_33_tTx n I A J t x1) A J (true, t.2) x1) else (qIm74_X4_take_33_tTx n I A J t x1)
def qAm60_X4_take_33_tTx (n : Nat) (I : Nat → Nat → Int32) (A : Nat → Nat → Int32) (J : Nat → Nat → Int64) (t : Bool × Bool) (x1 : Int32) : Nat → Nat → Int32 := if (q4_X4_take_33_tTx n I A J t x1) = 7 then (pA_X4_takeUnit_33_tTx n (qI11_X4_take_33_tTx n I A J t x1) A J (true, t.2) x1) else (qAm74_X4_take_33_tTx n I A J t x1)
def qIm47_X4_take_33_tTx (n : Nat) (I : Nat → Nat → Int32) (A : Nat → Nat → Int32) (J : Nat → Nat → Int64) (t : Bool × Bool) (x1 : Int32) : Nat → Nat → Int32 := if (q4_X4_take_33_tTx n I A J t x1) = 5 then (pI_X4_takeUntil_33 n (qI11_X4_take_33_tTx n I A J t x1) A J (true, t.2) ) else (qIm60_X4_take_33_tTx n I A J t x1)
def qAm47_X4_take_33_tTx (n : Nat) (I : Nat → Nat → Int32) (A : Nat → Nat → Int32) (J : Nat → Nat → Int64) (t : Bool × Bool) (x1 : Int32) : Nat → Nat → Int32 := if (q4_X4_take_33_tTx n I A J t x1) = 5 then A else (qAm60_X4_take_33_tTx n I A J t x1)
def qI39_X4_take_33_tTx (n : Nat) (I : Nat → Nat → Int32) (A : Nat → Nat → Int32) (J : Nat → Nat → Int64) (t : Bool × Bool) (x1 : Int32) : Nat → Nat → Int32 := cw_u (qI11_X4_take_33_tTx n I A J t x1) 33 8 ((qI11_X4_take_33_tTx n I A J t x1) 34 5)
def qIm28_X4_take_33_tTx (n : Nat) (I : Nat → Nat → Int32) (A : Nat → Nat → Int32) (J : Nat → Nat → Int64) (t : Bool × Bool) (x1 : Int32) : Nat → Nat → Int32 := if (q4_X4_take_33_tTx n I A J t x1) = 3 then (qI39_X4_take_33_tTx n I A J t x1) else (qIm47_X4_take_33_tTx n I A J t x1)
def qAm28_X4_take_33_tTx (n : Nat) (I : Nat → Nat → Int32) (A : Nat → Nat → Int32) (J : Nat → Nat → Int64) (t : Bool × Bool) (x1 : Int32) : Nat → Nat → Int32 := if (q4_X4_take_33_tTx n I A J t x1) = 3 then A else (qAm47_X4_take_33_tTx n I A J t x1)
def qIm15_X4_take_33_tTx (n : Nat) (I : Nat → Nat → Int32) (A : Nat → Nat → Int32) (J : Nat → Nat → Int64) (t : Bool × Bool) (x1 : Int32) : Nat → Nat → Int32 := if (q4_X4_take_33_tTx n I A J t x1) = 0 then (pI_X4_startRule_33 n (qI11_X4_take_33_tTx n I A J t x1) A J (true, t.2) x1) else (qIm28_X4_take_33_tTx n I A J t x1)
def qAm15_X4_take_33_tTx (n : Nat) (I : Nat → Nat → Int32) (A : Nat → Nat → Int32) (J : Nat → Nat → Int64) (t : Bool × Bool) (x1 : Int32) : Nat → Nat → Int32 := if (q4_X4_take_33_tTx n I A J t x1) = 0 then A else (qAm28_X4_take_33_tTx n I A J t x1)
def qIm84_X4_take_33_tTx (n : Nat) (I : Nat → Nat → Int32) (A : Nat → Nat → Int32) (J : Nat → Nat → Int64) (t : Bool × Bool) (x1 : Int32) : Nat → Nat → Int32 := if x1 = 3 then (pI_X10_addRule_60 n (qIm15_X4_take_33_tTx n I A J t x1) (qAm15_X4_take_33_tTx n I A J t x1) J (true, t.2) ((qIm15_X4_take_33_tTx n I A J t x1) 33 7) ((qIm15_X4_take_33_tTx n I A J t x1) 33 8) ((qIm15_X4_take_33_tTx n I A J t x1) 33 9)) else (qIm15_X4_take_33_tTx n I A J t x1)
def qAm84_X4_take_33_tTx (n : Nat) (I : Nat → Nat → Int32) (A : Nat → Nat → Int32) (J : Nat → Nat → Int64) (t : Bool × Bool) (x1 : Int32) : Nat → Nat → Int32 := if x1 = 3 then (pA_X10_addRule_60 n (qIm15_X4_take_33_tTx n I A J t x1) (qAm15_X4_take_33_tTx n I A J t x1) J (true, t.2) ((qIm15_X4_take_33_tTx n I A J t x1) 33 7) ((qIm15_X4_take_33_tTx n I A J t x1) 33 8) ((qIm15_X4_take_33_tTx n I A J t x1) 33 9)) else (qAm15_X4_take_33_tTx n I A J t x1)
def pb_X4_take_33_tTx (n : Nat) (I : Nat → Nat → Int32) (A : Nat → Nat → Int32) (J : Nat → Nat → Int64) (t : Bool × Bool) (x1 : Int32) : Prop := (¬ (q4_X4_take_33_tTx n I A J t x1) = 0 → (¬ (q4_X4_take_33_tTx n I A J t x1) = 3 → (¬ (q4_X4_take_33_tTx n I A J t x1) = 5 → (¬ (q4_X4_take_33_tTx n I A J t x1) = 7 → ((q4_X4_take_33_tTx n I A J t x1) = 8 → pb_X4_takeSign_33_tTx n (qI11_X4_take_33_tTx n I A J t x1) A J (true, t.2) x1)) ∧ ((q4_X4_take_33_tTx n I A J t x1) = 7 → pb_X4_takeUnit_33_tTx n (qI11_X4_take_33_tTx n I A J t x1) A J (true, t.2) x1)))) ∧ ((q4_X4_take_33_tTx n I A J t x1) = 0 → pb_X4_startRule_33 n (qI11_X4_take_33_tTx n I A J t x1) A J (true, t.2) x1) ∧ (x1 = 3 → pb_X10_addRule_60 n (qIm15_X4_take_33_tTx n I A J t x1) (qAm15_X4_take_33_tTx n I A J t x1) J (true, t.2) ((qIm15_X4_take_33_tTx n I A J t x1) 33 7) ((qIm15_X4_take_33_tTx n I A J t x1) 33 8) ((qIm15_X4_take_33_tTx n I A J t x1) 33 9))
def pI_X4_take_33_tTx (n : Nat) (I : Nat → Nat → Int32) (A : Nat → Nat → Int32) (J : Nat → Nat → Int64) (t : Bool × Bool) (x1 : Int32) : Nat → Nat → Int32 := (qIm84_X4_take_33_tTx n I A J t x1)
def pA_X4_take_33_tTx (n : Nat) (I : Nat → Nat → Int32) (A : Nat → Nat → Int32) (J : Nat → Nat → Int64) (t : Bool × Bool) (x1 : Int32) : Nat → Nat → Int32 := (qAm84_X4_take_33_tTx n I A J t x1)
set_option maxRecDepth 100000 in
set_option maxHeartbeats 4000000 in
theorem cv_X4_take_33_tTx (g : cw_G) (n : Nat) (I : Nat → Nat → Int32) (A : Nat → Nat → Int32) (J : Nat → Nat → Int64) (t : Bool × Bool) (x1 : Int32) (hb : pb_X4_take_33_tTx n I A J t x1) : Cd g mX4_take [(.ref (cw_z g + 33)), (.int x1)] (hp g I A J (true, t.2)) none (hp g (pI_X4_take_33_tTx n I A J t x1) (pA_X4_take_33_tTx n I A J t x1) J (true, t.2)) := by
  unfold pb_X4_take_33_tTx at hb
  unfold pI_X4_take_33_tTx pA_X4_take_33_tTx
  refine Cd.of rfl (Nat.le_of_ble_eq_true rfl) (ev_gen (fun Q hQ => ?_))
  refine ev_aload_n (pc := 0) dX4_take_0 rfl ?_
  refine tv_geti (pc := 1) dX4_take_1 fl_X4_33 (by decide) rfl rfl ?_
  refine ev_is (y := (q4_X4_take_33_tTx n I A J t x1)) rfl ?_
  refine ev_istore_2 (pc := 4) dX4_take_4 (by decide) rfl ?_
  refine ev_aload_n (pc := 5) dX4_take_5 rfl ?_
  refine ev_aload_n (pc := 6) dX4_take_6 rfl ?_
  refine ev_iload_n (pc := 7) dX4_take_7 rfl ?_
  refine ev_Vi (pc := 8) dX4_take_8 lk_X4_82 cd_X4_stateBehind ar_X4_stateBehind ⟨by decide, rfl, rfl⟩ (cv_X4_stateBehind_33 g n I A J (true, t.2) x1) (show 33 < 120 by decide) rfl rfl rfl rfl (Nat.le_of_ble_eq_true rfl) ⟨by decide, by decide⟩ ?_
  refine tw_puti (pc := 11) (I2 := (qI11_X4_take_33_tTx n I A J t x1)) dX4_take_11 fp_X4_33 (by decide) rfl rfl rfl ?_
  refine ev_iload_n (pc := 14) dX4_take_14 rfl ?_
  obtain ⟨hT_15, hF_15, hb⟩ := hb
  refine ev_cut (pj := 82) (Lj := [some (.ref (cw_z g + 33)), some (.int x1), some (.int (q4_X4_take_33_tTx n I A J t x1))]) (stj := []) (σj := hp g (qIm15_X4_take_33_tTx n I A J t x1) (qAm15_X4_take_33_tTx n I A J t x1) J (true, t.2)) ?_ (fun hJ_15 => ?_)
  rotate_left
  · refine ev_if_ne (pc := 15) (tgt := 26) dX4_take_15 (by decide) (fun c_15 => ?_) (fun c_15 => ?_)
    · have hb := hT_15 c_15
      refine ev_iload_n (pc := 26) dX4_take_26 rfl ?_
      refine ev_iconst (pc := 27) (v := 3) dX4_take_27 (by decide) ?_
      have hT_28 := hb
      refine ev_cut (pj := 82) (Lj := [some (.ref (cw_z g + 33)), some (.int x1), some (.int (q4_X4_take_33_tTx n I A J t x1))]) (stj := []) (σj := hp g (qIm28_X4_take_33_tTx n I A J t x1) (qAm28_X4_take_33_tTx n I A J t x1) J (true, t.2)) ?_ (fun hJ_28 => ?_)
      rotate_left
      · refine ev_icmp_ne (pc := 28) (tgt := 45) dX4_take_28 (by decide) (fun c_28 => ?_) (fun c_28 => ?_)
        · have hb := hT_28 c_28
          refine ev_iload_n (pc := 45) dX4_take_45 rfl ?_
          refine ev_iconst (pc := 46) (v := 5) dX4_take_46 (by decide) ?_
          have hT_47 := hb
          refine ev_cut (pj := 82) (Lj := [some (.ref (cw_z g + 33)), some (.int x1), some (.int (q4_X4_take_33_tTx n I A J t x1))]) (stj := []) (σj := hp g (qIm47_X4_take_33_tTx n I A J t x1) (qAm47_X4_take_33_tTx n I A J t x1) J (true, t.2)) ?_ (fun hJ_47 => ?_)
          rotate_left
          · refine ev_icmp_ne (pc := 47) (tgt := 57) dX4_take_47 (by decide) (fun c_47 => ?_) (fun c_47 => ?_)
            · have hb := hT_47 c_47
              refine ev_iload_n (pc := 57) dX4_take_57 rfl ?_
              refine ev_bipush (pc := 58) (v := 7) dX4_take_58 (by decide) ?_
              obtain ⟨hT_60, hF_60⟩ := hb
              refine ev_cut (pj := 82) (Lj := [some (.ref (cw_z g + 33)), some (.int x1), some (.int (q4_X4_take_33_tTx n I A J t x1))]) (stj := []) (σj := hp g (qIm60_X4_take_33_tTx n I A J t x1) (qAm60_X4_take_33_tTx n I A J t x1) J (true, t.2)) ?_ (fun hJ_60 => ?_)
              rotate_left
              · refine ev_icmp_ne (pc := 60) (tgt := 71) dX4_take_60 (by decide) (fun c_60 => ?_) (fun c_60 => ?_)
                · have hb := hT_60 c_60
                  refine ev_iload_n (pc := 71) dX4_take_71 rfl ?_
                  refine ev_bipush (pc := 72) (v := 8) dX4_take_72 (by decide) ?_
                  have hF_74 := hb
                  refine ev_cut (pj := 82) (Lj := [some (.ref (cw_z g + 33)), some (.int x1), some (.int (q4_X4_take_33_tTx n I A J t x1))]) (stj := []) (σj := hp g (qIm74_X4_take_33_tTx n I A J t x1) (qAm74_X4_take_33_tTx n I A J t x1) J (true, t.2)) ?_ (fun hJ_74 => ?_)
                  rotate_left
                  · refine ev_icmp_ne (pc := 74) (tgt := 82) dX4_take_74 (by decide) (fun c_74 => ?_) (fun c_74 => ?_)
                    · simp only [qIm74_X4_take_33_tTx, qAm74_X4_take_33_tTx, if_neg c_74] at hJ_74
                      exact ev_loc hJ_74 cw_le0
                    · have hb := hF_74 c_74
                      refine ev_aload_n (pc := 77) dX4_take_77 rfl ?_
                      refine ev_iload_n (pc := 78) dX4_take_78 rfl ?_
                      refine ev_Vv (pc := 79) dX4_take_79 lk_X4_111 cd_X4_takeSign ar_X4_takeSign ⟨by decide, rfl, rfl⟩ (cv_X4_takeSign_33_tTx g n (qI11_X4_take_33_tTx n I A J t x1) A J (true, t.2) x1 hb) (show 33 < 120 by decide) rfl rfl rfl rfl (Nat.le_of_ble_eq_true rfl) ⟨by decide, by decide⟩ ?_
                      simp only [qIm74_X4_take_33_tTx, qAm74_X4_take_33_tTx, if_pos c_74] at hJ_74
                      exact ev_loc hJ_74 cw_le0
                  simp only [qIm60_X4_take_33_tTx, qAm60_X4_take_33_tTx, if_neg c_60] at hJ_60
                  exact ev_loc hJ_60 cw_le0
                · have hb := hF_60 c_60
                  refine ev_aload_n (pc := 63) dX4_take_63 rfl ?_
                  refine ev_iload_n (pc := 64) dX4_take_64 rfl ?_
                  refine ev_Vv (pc := 65) dX4_take_65 lk_X4_108 cd_X4_takeUnit ar_X4_takeUnit ⟨by decide, rfl, rfl⟩ (cv_X4_takeUnit_33_tTx g n (qI11_X4_take_33_tTx n I A J t x1) A J (true, t.2) x1 hb) (show 33 < 120 by decide) rfl rfl rfl rfl (Nat.le_of_ble_eq_true rfl) ⟨by decide, by decide⟩ ?_
                  refine ev_goto (pc := 68) (tgt := 82) dX4_take_68 (by decide) ?_
                  simp only [qIm60_X4_take_33_tTx, qAm60_X4_take_33_tTx, if_pos c_60] at hJ_60
                  exact ev_loc hJ_60 cw_le0
              simp only [qIm47_X4_take_33_tTx, qAm47_X4_take_33_tTx, if_neg c_47] at hJ_47
              exact ev_loc hJ_47 cw_le0
            · refine ev_aload_n (pc := 50) dX4_take_50 rfl ?_
              refine ev_Vv (pc := 51) dX4_take_51 lk_X4_105 cd_X4_takeUntil ar_X4_takeUntil ⟨by decide, rfl, rfl⟩ (cv_X4_takeUntil_33 g n (qI11_X4_take_33_tTx n I A J t x1) A J (true, t.2) ) (show 33 < 120 by decide) rfl rfl rfl rfl (Nat.le_of_ble_eq_true rfl) ⟨by decide, by decide⟩ ?_
              refine ev_goto (pc := 54) (tgt := 82) dX4_take_54 (by decide) ?_
              simp only [qIm47_X4_take_33_tTx, qAm47_X4_take_33_tTx, if_pos c_47] at hJ_47
              exact ev_loc hJ_47 cw_le0
          simp only [qIm28_X4_take_33_tTx, qAm28_X4_take_33_tTx, if_neg c_28] at hJ_28
          exact ev_loc hJ_28 cw_le0
        · refine ev_aload_n (pc := 31) dX4_take_31 rfl ?_
          refine ev_aload_n (pc := 32) dX4_take_32 rfl ?_
          refine tv_getr (pc := 33) (d := 34) dX4_take_33 fl_X4_12 (by decide) rfl rfl ?_
          refine tv_geti (pc := 36) dX4_take_36 fl_X4_102 (by decide) rfl rfl ?_
          refine tw_puti (pc := 39) (I2 := (qI39_X4_take_33_tTx n I A J t x1)) dX4_take_39 fp_X4_46 (by decide) rfl rfl rfl ?_
          refine ev_goto (pc := 42) (tgt := 82) dX4_take_42 (by decide) ?_
          simp only [qIm28_X4_take_33_tTx, qAm28_X4_take_33_tTx, if_pos c_28] at hJ_28
          exact ev_loc hJ_28 cw_le0
      simp only [qIm15_X4_take_33_tTx, qAm15_X4_take_33_tTx, if_neg c_15] at hJ_15
      exact ev_loc hJ_15 cw_le0
    · have hb := hF_15 c_15
      refine ev_aload_n (pc := 18) dX4_take_18 rfl ?_
      refine ev_iload_n (pc := 19) dX4_take_19 rfl ?_
      refine ev_Vv (pc := 20) dX4_take_20 lk_X4_99 cd_X4_startRule ar_X4_startRule ⟨by decide, rfl, rfl⟩ (cv_X4_startRule_33 g n (qI11_X4_take_33_tTx n I A J t x1) A J (true, t.2) x1 hb) (show 33 < 120 by decide) rfl rfl rfl rfl (Nat.le_of_ble_eq_true rfl) ⟨by decide, by decide⟩ ?_
      refine ev_goto (pc := 23) (tgt := 82) dX4_take_23 (by decide) ?_
      simp only [qIm15_X4_take_33_tTx, qAm15_X4_take_33_tTx, if_pos c_15] at hJ_15
      exact ev_loc hJ_15 cw_le0
  refine ev_iload_n (pc := 82) dX4_take_82 rfl ?_
  refine ev_iconst (pc := 83) (v := 3) dX4_take_83 (by decide) ?_
  have hF_84 := hb
  refine ev_cut (pj := 106) (Lj := [some (.ref (cw_z g + 33)), some (.int x1), some (.int (q4_X4_take_33_tTx n I A J t x1))]) (stj := []) (σj := hp g (qIm84_X4_take_33_tTx n I A J t x1) (qAm84_X4_take_33_tTx n I A J t x1) J (true, t.2)) ?_ (fun hJ_84 => ?_)
  rotate_left
  · refine ev_icmp_ne (pc := 84) (tgt := 106) dX4_take_84 (by decide) (fun c_84 => ?_) (fun c_84 => ?_)
    · simp only [qIm84_X4_take_33_tTx, qAm84_X4_take_33_tTx, if_neg c_84] at hJ_84
      exact ev_loc hJ_84 cw_le0
    · have hb := hF_84 c_84
      refine ev_aload_n (pc := 87) dX4_take_87 rfl ?_
      refine tv_getr (pc := 88) (d := 60) dX4_take_88 fl_X4_25 (by decide) rfl rfl ?_
      refine ev_aload_n (pc := 91) dX4_take_91 rfl ?_
      refine tv_geti (pc := 92) dX4_take_92 fl_X4_43 (by decide) rfl rfl ?_
      refine ev_aload_n (pc := 95) dX4_take_95 rfl ?_
      refine tv_geti (pc := 96) dX4_take_96 fl_X4_46 (by decide) rfl rfl ?_
      refine ev_aload_n (pc := 99) dX4_take_99 rfl ?_
      refine tv_geti (pc := 100) dX4_take_100 fl_X4_49 (by decide) rfl rfl ?_
      refine ev_Vv (pc := 103) dX4_take_103 lk_X4_114 cd_X10_addRule ar_X10_addRule ⟨by decide, rfl, rfl⟩ (cv_X10_addRule_60 g n (qIm15_X4_take_33_tTx n I A J t x1) (qAm15_X4_take_33_tTx n I A J t x1) J (true, t.2) ((qIm15_X4_take_33_tTx n I A J t x1) 33 7) ((qIm15_X4_take_33_tTx n I A J t x1) 33 8) ((qIm15_X4_take_33_tTx n I A J t x1) 33 9) hb) (show 60 < 120 by decide) rfl rfl rfl rfl (Nat.le_of_ble_eq_true rfl) ⟨by decide, by decide⟩ ?_
      simp only [qIm84_X4_take_33_tTx, qAm84_X4_take_33_tTx, if_pos c_84] at hJ_84
      exact ev_loc hJ_84 cw_le0
  exact ev_vret (pc := 106) dX4_take_106 rfl (by decide) (by decide) (hQ _ _ ⟨rfl, rfl⟩)
