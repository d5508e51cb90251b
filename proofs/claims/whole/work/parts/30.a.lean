def qs0m8_X11_isDay (n : Nat) (I : Nat → Nat → Int32) (A : Nat → Nat → Int32) (J : Nat → Nat → Int64) (t : Bool × Bool) (x1 : Int32) : Int32 := if 3600 ≤ x1 then 0 else 1
def qs0m1_X11_isDay (n : Nat) (I : Nat → Nat → Int32) (A : Nat → Nat → Int32) (J : Nat → Nat → Int64) (t : Bool × Bool) (x1 : Int32) : Int32 := if x1 < 0 then 0 else (qs0m8_X11_isDay n I A J t x1)
def px_X11_isDay (n : Nat) (I : Nat → Nat → Int32) (A : Nat → Nat → Int32) (J : Nat → Nat → Int64) (t : Bool × Bool) (x1 : Int32) : Int32 := (qs0m1_X11_isDay n I A J t x1)
set_option maxRecDepth 100000 in
set_option maxHeartbeats 4000000 in
theorem cv_X11_isDay (g : cw_G) (n : Nat) (I : Nat → Nat → Int32) (A : Nat → Nat → Int32) (J : Nat → Nat → Int64) (t : Bool × Bool) (x1 : Int32) : Cd g mX11_isDay [(.int x1)] (hp g I A J t) (some (.int (px_X11_isDay n I A J t x1))) (hp g I A J t) := by
  unfold px_X11_isDay
  refine Cd.of rfl (Nat.le_of_ble_eq_true rfl) (ev_gen (fun Q hQ => ?_))
  refine ev_iload_n (pc := 0) dX11_isDay_0 rfl ?_
  refine ev_cut (pj := 16) (Lj := [some (.int x1)]) (stj := [(.int (qs0m1_X11_isDay n I A J t x1))]) (σj := hp g I A J t) ?_ (fun hJ_1 => ?_)
  rotate_left
  · refine ev_if_lt (pc := 1) (tgt := 15) dX11_isDay_1 (by decide) (fun c_1 => ?_) (fun c_1 => ?_)
    · refine ev_iconst (pc := 15) (v := 0) dX11_isDay_15 (by decide) ?_
      simp only [qs0m1_X11_isDay, if_pos c_1] at hJ_1
      exact ev_loc hJ_1 cw_le0
    · refine ev_iload_n (pc := 4) dX11_isDay_4 rfl ?_
      refine ev_sipush (pc := 5) (v := 3600) dX11_isDay_5 (by decide) ?_
      refine ev_cut (pj := 16) (Lj := [some (.int x1)]) (stj := [(.int (qs0m8_X11_isDay n I A J t x1))]) (σj := hp g I A J t) ?_ (fun hJ_8 => ?_)
      rotate_left
      · refine ev_icmp_ge (pc := 8) (tgt := 15) dX11_isDay_8 (by decide) (fun c_8 => ?_) (fun c_8 => ?_)
        · refine ev_iconst (pc := 15) (v := 0) dX11_isDay_15 (by decide) ?_
          simp only [qs0m8_X11_isDay, if_pos c_8] at hJ_8
          exact ev_loc hJ_8 cw_le0
        · refine ev_iconst (pc := 11) (v := 1) dX11_isDay_11 (by decide) ?_
          refine ev_goto (pc := 12) (tgt := 16) dX11_isDay_12 (by decide) ?_
          simp only [qs0m8_X11_isDay, if_neg c_8] at hJ_8
          exact ev_loc hJ_8 cw_le0
      simp only [qs0m1_X11_isDay, if_neg c_1] at hJ_1
      exact ev_loc hJ_1 cw_le0
  exact ev_zret (pc := 16) dX11_isDay_16 rfl (cw_nz (cw_ite (Or.inl rfl) (cw_ite (Or.inl rfl) (Or.inr rfl)))) (by decide) (by decide) (hQ _ _ ⟨rfl, rfl⟩)

theorem z1_X11_isDay (n : Nat) (I : Nat → Nat → Int32) (A : Nat → Nat → Int32) (J : Nat → Nat → Int64) (t : Bool × Bool) (x1 : Int32) : px_X11_isDay n I A J t x1 = 0 ∨ px_X11_isDay n I A J t x1 = 1 := (cw_ite (Or.inl rfl) (cw_ite (Or.inl rfl) (Or.inr rfl)))

def qs0m7_X11_isHour (n : Nat) (I : Nat → Nat → Int32) (A : Nat → Nat → Int32) (J : Nat → Nat → Int64) (t : Bool × Bool) (x1 : Int32) : Int32 := if 24 ≤ x1 then 0 else 1
def qs0m1_X11_isHour (n : Nat) (I : Nat → Nat → Int32) (A : Nat → Nat → Int32) (J : Nat → Nat → Int64) (t : Bool × Bool) (x1 : Int32) : Int32 := if x1 < 0 then 0 else (qs0m7_X11_isHour n I A J t x1)
def px_X11_isHour (n : Nat) (I : Nat → Nat → Int32) (A : Nat → Nat → Int32) (J : Nat → Nat → Int64) (t : Bool × Bool) (x1 : Int32) : Int32 := (qs0m1_X11_isHour n I A J t x1)
set_option maxRecDepth 100000 in
set_option maxHeartbeats 4000000 in
theorem cv_X11_isHour (g : cw_G) (n : Nat) (I : Nat → Nat → Int32) (A : Nat → Nat → Int32) (J : Nat → Nat → Int64) (t : Bool × Bool) (x1 : Int32) : Cd g mX11_isHour [(.int x1)] (hp g I A J t) (some (.int (px_X11_isHour n I A J t x1))) (hp g I A J t) := by
  unfold px_X11_isHour
  refine Cd.of rfl (Nat.le_of_ble_eq_true rfl) (ev_gen (fun Q hQ => ?_))
  refine ev_iload_n (pc := 0) dX11_isHour_0 rfl ?_
  refine ev_cut (pj := 15) (Lj := [some (.int x1)]) (stj := [(.int (qs0m1_X11_isHour n I A J t x1))]) (σj := hp g I A J t) ?_ (fun hJ_1 => ?_)
  rotate_left
  · refine ev_if_lt (pc := 1) (tgt := 14) dX11_isHour_1 (by decide) (fun c_1 => ?_) (fun c_1 => ?_)
    · refine ev_iconst (pc := 14) (v := 0) dX11_isHour_14 (by decide) ?_
      simp only [qs0m1_X11_isHour, if_pos c_1] at hJ_1
      exact ev_loc hJ_1 cw_le0
    · refine ev_iload_n (pc := 4) dX11_isHour_4 rfl ?_
      refine ev_bipush (pc := 5) (v := 24) dX11_isHour_5 (by decide) ?_
      refine ev_cut (pj := 15) (Lj := [some (.int x1)]) (stj := [(.int (qs0m7_X11_isHour n I A J t x1))]) (σj := hp g I A J t) ?_ (fun hJ_7 => ?_)
      rotate_left
      · refine ev_icmp_ge (pc := 7) (tgt := 14) dX11_isHour_7 (by decide) (fun c_7 => ?_) (fun c_7 => ?_)
        · refine ev_iconst (pc := 14) (v := 0) dX11_isHour_14 (by decide) ?_
          simp only [qs0m7_X11_isHour, if_pos c_7] at hJ_7
          exact ev_loc hJ_7 cw_le0
        · refine ev_iconst (pc := 10) (v := 1) dX11_isHour_10 (by decide) ?_
          refine ev_goto (pc := 11) (tgt := 15) dX11_isHour_11 (by decide) ?_
          simp only [qs0m7_X11_isHour, if_neg c_7] at hJ_7
          exact ev_loc hJ_7 cw_le0
      simp only [qs0m1_X11_isHour, if_neg c_1] at hJ_1
      exact ev_loc hJ_1 cw_le0
  exact ev_zret (pc := 15) dX11_isHour_15 rfl (cw_nz (cw_ite (Or.inl rfl) (cw_ite (Or.inl rfl) (Or.inr rfl)))) (by decide) (by decide) (hQ _ _ ⟨rfl, rfl⟩)

theorem z1_X11_isHour (n : Nat) (I : Nat → Nat → Int32) (A : Nat → Nat → Int32) (J : Nat → Nat → Int64) (t : Bool × Bool) (x1 : Int32) : px_X11_isHour n I A J t x1 = 0 ∨ px_X11_isHour n I A J t x1 = 1 := (cw_ite (Or.inl rfl) (cw_ite (Or.inl rfl) (Or.inr rfl)))
