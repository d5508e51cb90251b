def qs0m8_X11_isDay (n : Nat) (I : Nat → Nat → Int32) (A : Nat → Nat → Int32) (J : Nat → Nat → Int64) (t : Bool × Bool) (x1 : Int32) : Int32 := if 3600 ≤ x1 then 0 else 1
def qs0m1_X11_isDay (n : Nat) (I : Nat → Nat → Int32) (A : Nat → Nat → Int32) (J : Nat → Nat → Int64) (t : Bool × Bool) (x1 : Int32) : Int32 := if x1 < 0 then 0 else (qs0m8_X11_isDay n I A J t x1)
def px_X11_isDay (n : Nat) (I : Nat → Nat → Int32) (A : Nat → Nat → Int32) (J : Nat → Nat → Int64) (t : Bool × Bool) (x1 : Int32) : Int32 := (qs0m1_X11_isDay n I A J t x1)
set_option maxRecDepth 100000 in
set_option maxHeartbeats 4000000 in
theorem cv_X11_isDay (g : cw_G) (n : Nat) (I : Nat → Nat → Int32) (A : Nat → Nat → Int32) (J : Nat → Nat → Int64) (t : Bool × Bool) (x1 : Int32) : Cd g mX11_isDay [(.int x1)] (hp g I A J t) (some (.int (px_X11_isDay n I A J t x1))) (hp g I A J t) := by
  unfold px_X11_isDay
  refine Cd.of rfl (Nat.le_of_ble_eq_true rfl) (ev_gen (fun Q hQ => ?_))
  refine ev_iload_n (pc := 0) dX11_isDay_0 rfl ?_
  refine ev_cut (pj := 16) (Lj := [some (.int x1)]) (stj := [(.int (qs0m1_X11_isDay n I A J t x1))]) (σj := hp g I A J t) ?_ (fun hJ_1 => ?_)
  rotate_left
  · refine ev_if_lt (pc := 1) (tgt := 15) dX11_isDay_1 (by decide) (fun c_1 => ?_) (fun c_1 => ?_)
    · refine ev_iconst (pc := 15) (v := 0) dX11_isDay_15 (by decide) ?_
      simp only [qs0m1_X11_isDay, if_pos c_1] at hJ_1
      exact ev_loc hJ_1 cw_le0
    · refine ev_iload_n (pc := 4) dX11_isDay_4 rfl ?_
      refine ev_sipush (pc := 5) (v := 3600) dX11_isDay_5 (by decide) ?_
      refine ev_cut (pj := 16) (Lj := [some (.int x1)]) (stj := [(.int (qs0m8_X11_isDay n I A J t x1))]) (σj := hp g I A J t) ?_ (fun hJ_8 => ?_)
      rotate_left
      · refine ev_icmp_ge (pc := 8) (tgt := 15) dX11_isDay_8 (by decide) (fun c_8 => ?_) (fun c_8 => ?_)
        · refine ev_iconst (pc := 15) (v := 0) dX11_isDay_15 (by decide) ?_
          simp only [qs0m8_X11_isDay, if_pos c_8] at hJ_8
          exact ev_loc hJ_8 cw_le0
        · refine ev_iconst (pc := 11) (v := 1) dX11_isDay_11 (by decide) ?_
          refine ev_goto (pc := 12) (tgt := 16) dX11_isDay_12 (by decide) ?_
          simp only [qs0m8_X11_isDay, if_neg c_8] at hJ_8
          exact ev_loc hJ_8 cw_le0
      simp only [qs0m1_X11_isDay, if_neg c_1] at hJ_1
      exact ev_loc hJ_1 cw_le0
  exact ev_zret (pc := 16) dX11_isDay_16 rfl (cw_nz (cw_ite (Or.inl rfl) (cw_ite (Or.inl rfl) (Or.inr rfl)))) (by decide) (by decide) (hQ _ _ ⟨rfl, rfl⟩)

theorem z1_X11_isDay (n : Nat) (I : Nat → Nat → Int32) (A : Nat → Nat → Int32) (J : Nat → Nat → Int64) (t : Bool × Bool) (x1 : Int32) : px_X11_isDay n I A J t x1 = 0 ∨ px_X11_isDay n I A J t x1 = 1 := (cw_ite (Or.inl rfl) (cw_ite (Or.inl rfl) (Or.inr rfl)))

def qs0m7_X11_isHour (n : Nat) (I : Nat → Nat → Int32) (A : Nat → Nat → Int32) (J : Nat → Nat → Int64) (t : Bool × Bool) (x1 : Int32) : Int32 := if 24 ≤ x1 then 0 else 1
def qs0m1_X11_isHour (n : Nat) (I : Nat → Nat → Int32) (A : Nat → Nat → Int32) (J : Nat → Nat → Int64) (t : Bool × Bool) (x1 : Int32) : Int32 := if x1 < 0 then 0 else (qs0m7_X11_isHour n I A J t x1)
def px_X11_isHour (n : Nat) (I : Nat → Nat → Int32) (A : Nat → Nat → Int32) (J : Nat → Nat → Int64) (t : Bool × Bool) (x1 : Int32) : Int32 := (qs0m1_X11_isHour n I A J t x1)
set_option maxRecDepth 100000 in
set_option maxHeartbeats 4000000 in
theorem cv_X11_isHour (g : cw_G) (n : Nat) (I : Nat → Nat → Int32) (A : Nat → Nat → Int32) (J : Nat → Nat → Int64) (t : Bool × Bool) (x1 : Int32) : Cd g mX11_isHour [(.int x1)] (hp g I A J t) (some (.int (px_X11_isHour n I A J t x1))) (hp g I A J t) := by
  unfold px_X11_isHour
  refine Cd.of rfl (Nat.le_of_ble_eq_true rfl) (ev_gen (fun Q hQ => ?_))
  refine ev_iload_n (pc := 0) dX11_isHour_0 rfl ?_
  refine ev_cut (pj := 15) (Lj := [some (.int x1)]) (stj := [(.int (qs0m1_X11_isHour n I A J t x1))]) (σj := hp g I A J t) ?_ (fun hJ_1 => ?_)
  rotate_left
  · refine ev_if_lt (pc := 1) (tgt := 14) dX11_isHour_1 (by decide) (fun c_1 => ?_) (fun c_1 => ?_)
    · refine ev_iconst (pc := 14) (v := 0) dX11_isHour_14 (by decide) ?_
      simp only [qs0m1_X11_isHour, if_pos c_1] at hJ_1
      exact ev_loc hJ_1 cw_le0
    · refine ev_iload_n (pc := 4) dX11_isHour_4 rfl ?_
      refine ev_bipush (pc := 5) (v := 24) dX11_isHour_5 (by decide) ?_
      refine ev_cut (pj := 15) (Lj := [some (.int x1)]) (stj := [(.int (qs0m7_X11_isHour n I A J t x1))]) (σj := hp g I A J t) ?_ (fun hJ_7 => ?_)
      rotate_left
      · refine ev_icmp_ge (pc := 7) (tgt := 14) dX11_isHour_7 (by decide) (fun c_7 => ?_) (fun c_7 => ?_)
        · refine ev_iconst (pc := 14) (v := 0) dX11_isHour_14 (by decide) ?_
          simp only [qs0m7_X11_isHour, if_pos c_7] at hJ_7
          exact ev_loc hJ_7 cw_le0
        · refine ev_iconst (pc := 10) (v := 1) dX11_isHour_10 (by decide) ?_
          refine ev_goto (pc := 11) (tgt := 15) dX11_isHour_11 (by decide) ?_
          simp only [qs0m7_X11_isHour, if_neg c_7] at hJ_7
          exact ev_loc hJ_7 cw_le0
      simp only [qs0m1_X11_isHour, if_neg c_1] at hJ_1
      exact ev_loc hJ_1 cw_le0
  exact ev_zret (pc := 15) dX11_isHour_15 rfl (cw_nz (cw_ite (Or.inl rfl) (cw_ite (Or.inl rfl) (Or.inr rfl)))) (by decide) (by decide) (hQ _ _ ⟨rfl, rfl⟩)

theorem z1_X11_isHour (n : Nat) (I : Nat → Nat → Int32) (A : Nat → Nat → Int32) (J : Nat → Nat → Int64) (t : Bool × Bool) (x1 : Int32) : px_X11_isHour n I A J t x1 = 0 ∨ px_X11_isHour n I A J t x1 = 1 := (cw_ite (Or.inl rfl) (cw_ite (Or.inl rfl) (Or.inr rfl)))

def qs0m7_X11_isBand (n : Nat) (I : Nat → Nat → Int32) (A : Nat → Nat → Int32) (J : Nat → Nat → Int64) (t : Bool × Bool) (x1 : Int32) : Int32 := if 6 ≤ x1 then 0 else 1
def qs0m1_X11_isBand (n : Nat) (I : Nat → Nat → Int32) (A : Nat → Nat → Int32) (J : Nat → Nat → Int64) (t : Bool × Bool) (x1 : Int32) : Int32 := if x1 < 0 then 0 else (qs0m7_X11_isBand n I A J t x1)
def px_X11_isBand (n : Nat) (I : Nat → Nat → Int32) (A : Nat → Nat → Int32) (J : Nat → Nat → Int64) (t : Bool × Bool) (x1 : Int32) : Int32 := (qs0m1_X11_isBand n I A J t x1)
set_option maxRecDepth 100000 in
set_option maxHeartbeats 4000000 in
theorem cv_X11_isBand (g : cw_G) (n : Nat) (I : Nat → Nat → Int32) (A : Nat → Nat → Int32) (J : Nat → Nat → Int64) (t : Bool × Bool) (x1 : Int32) : Cd g mX11_isBand [(.int x1)] (hp g I A J t) (some (.int (px_X11_isBand n I A J t x1))) (hp g I A J t) := by
  unfold px_X11_isBand
  refine Cd.of rfl (Nat.le_of_ble_eq_true rfl) (ev_gen (fun Q hQ => ?_))
  refine ev_iload_n (pc := 0) dX11_isBand_0 rfl ?_
  refine ev_cut (pj := 15) (Lj := [some (.int x1)]) (stj := [(.int (qs0m1_X11_isBand n I A J t x1))]) (σj := hp g I A J t) ?_ (fun hJ_1 => ?_)
  rotate_left
  · refine ev_if_lt (pc := 1) (tgt := 14) dX11_isBand_1 (by decide) (fun c_1 => ?_) (fun c_1 => ?_)
    · refine ev_iconst (pc := 14) (v := 0) dX11_isBand_14 (by decide) ?_
      simp only [qs0m1_X11_isBand, if_pos c_1] at hJ_1
      exact ev_loc hJ_1 cw_le0
    · refine ev_iload_n (pc := 4) dX11_isBand_4 rfl ?_
      refine ev_bipush (pc := 5) (v := 6) dX11_isBand_5 (by decide) ?_
      refine ev_cut (pj := 15) (Lj := [some (.int x1)]) (stj := [(.int (qs0m7_X11_isBand n I A J t x1))]) (σj := hp g I A J t) ?_ (fun hJ_7 => ?_)
      rotate_left
      · refine ev_icmp_ge (pc := 7) (tgt := 14) dX11_isBand_7 (by decide) (fun c_7 => ?_) (fun c_7 => ?_)
        · refine ev_iconst (pc := 14) (v := 0) dX11_isBand_14 (by decide) ?_
          simp only [qs0m7_X11_isBand, if_pos c_7] at hJ_7
          exact ev_loc hJ_7 cw_le0
        · refine ev_iconst (pc := 10) (v := 1) dX11_isBand_10 (by decide) ?_
          refine ev_goto (pc := 11) (tgt := 15) dX11_isBand_11 (by decide) ?_
          simp only [qs0m7_X11_isBand, if_neg c_7] at hJ_7
          exact ev_loc hJ_7 cw_le0
      simp only [qs0m1_X11_isBand, if_neg c_1] at hJ_1
      exact ev_loc hJ_1 cw_le0
  exact ev_zret (pc := 15) dX11_isBand_15 rfl (cw_nz (cw_ite (Or.inl rfl) (cw_ite (Or.inl rfl) (Or.inr rfl)))) (by decide) (by decide) (hQ _ _ ⟨rfl, rfl⟩)

theorem z1_X11_isBand (n : Nat) (I : Nat → Nat → Int32) (A : Nat → Nat → Int32) (J : Nat → Nat → Int64) (t : Bool × Bool) (x1 : Int32) : px_X11_isBand n I A J t x1 = 0 ∨ px_X11_isBand n I A J t x1 = 1 := (cw_ite (Or.inl rfl) (cw_ite (Or.inl rfl) (Or.inr rfl)))

def qs0m9_X11_isNumber (n : Nat) (I : Nat → Nat → Int32) (A : Nat → Nat → Int32) (J : Nat → Nat → Int64) (t : Bool × Bool) (x1 : Int32) : Int32 := if 99 < x1 then 0 else 1
def qs0m3_X11_isNumber (n : Nat) (I : Nat → Nat → Int32) (A : Nat → Nat → Int32) (J : Nat → Nat → Int64) (t : Bool × Bool) (x1 : Int32) : Int32 := if x1 < (-99) then 0 else (qs0m9_X11_isNumber n I A J t x1)
def px_X11_isNumber (n : Nat) (I : Nat → Nat → Int32) (A : Nat → Nat → Int32) (J : Nat → Nat → Int64) (t : Bool × Bool) (x1 : Int32) : Int32 := (qs0m3_X11_isNumber n I A J t x1)
set_option maxRecDepth 100000 in
set_option maxHeartbeats 4000000 in
theorem cv_X11_isNumber (g : cw_G) (n : Nat) (I : Nat → Nat → Int32) (A : Nat → Nat → Int32) (J : Nat → Nat → Int64) (t : Bool × Bool) (x1 : Int32) : Cd g mX11_isNumber [(.int x1)] (hp g I A J t) (some (.int (px_X11_isNumber n I A J t x1))) (hp g I A J t) := by
  unfold px_X11_isNumber
  refine Cd.of rfl (Nat.le_of_ble_eq_true rfl) (ev_gen (fun Q hQ => ?_))
  refine ev_iload_n (pc := 0) dX11_isNumber_0 rfl ?_
  refine ev_bipush (pc := 1) (v := (-99)) dX11_isNumber_1 (by decide) ?_
  refine ev_cut (pj := 17) (Lj := [some (.int x1)]) (stj := [(.int (qs0m3_X11_isNumber n I A J t x1))]) (σj := hp g I A J t) ?_ (fun hJ_3 => ?_)
  rotate_left
  · refine ev_icmp_lt (pc := 3) (tgt := 16) dX11_isNumber_3 (by decide) (fun c_3 => ?_) (fun c_3 => ?_)
    · refine ev_iconst (pc := 16) (v := 0) dX11_isNumber_16 (by decide) ?_
      simp only [qs0m3_X11_isNumber, if_pos c_3] at hJ_3
      exact ev_loc hJ_3 cw_le0
    · refine ev_iload_n (pc := 6) dX11_isNumber_6 rfl ?_
      refine ev_bipush (pc := 7) (v := 99) dX11_isNumber_7 (by decide) ?_
      refine ev_cut (pj := 17) (Lj := [some (.int x1)]) (stj := [(.int (qs0m9_X11_isNumber n I A J t x1))]) (σj := hp g I A J t) ?_ (fun hJ_9 => ?_)
      rotate_left
      · refine ev_icmp_gt (pc := 9) (tgt := 16) dX11_isNumber_9 (by decide) (fun c_9 => ?_) (fun c_9 => ?_)
        · refine ev_iconst (pc := 16) (v := 0) dX11_isNumber_16 (by decide) ?_
          simp only [qs0m9_X11_isNumber, if_pos c_9] at hJ_9
          exact ev_loc hJ_9 cw_le0
        · refine ev_iconst (pc := 12) (v := 1) dX11_isNumber_12 (by decide) ?_
          refine ev_goto (pc := 13) (tgt := 17) dX11_isNumber_13 (by decide) ?_
          simp only [qs0m9_X11_isNumber, if_neg c_9] at hJ_9
          exact ev_loc hJ_9 cw_le0
      simp only [qs0m3_X11_isNumber, if_neg c_3] at hJ_3
      exact ev_loc hJ_3 cw_le0
  exact ev_zret (pc := 17) dX11_isNumber_17 rfl (cw_nz (cw_ite (Or.inl rfl) (cw_ite (Or.inl rfl) (Or.inr rfl)))) (by decide) (by decide) (hQ _ _ ⟨rfl, rfl⟩)

theorem z1_X11_isNumber (n : Nat) (I : Nat → Nat → Int32) (A : Nat → Nat → Int32) (J : Nat → Nat → Int64) (t : Bool × Bool) (x1 : Int32) : px_X11_isNumber n I A J t x1 = 0 ∨ px_X11_isNumber n I A J t x1 = 1 := (cw_ite (Or.inl rfl) (cw_ite (Or.inl rfl) (Or.inr rfl)))

def qs0m12_X11_isSpan (n : Nat) (I : Nat → Nat → Int32) (A : Nat → Nat → Int32) (J : Nat → Nat → Int64) (t : Bool × Bool) (x1 : Int32) (x2 : Int32) : Int32 := if 24 < x2 then 0 else 1
def qs0m6_X11_isSpan (n : Nat) (I : Nat → Nat → Int32) (A : Nat → Nat → Int32) (J : Nat → Nat → Int64) (t : Bool × Bool) (x1 : Int32) (x2 : Int32) : Int32 := if x2 ≤ x1 then 0 else (qs0m12_X11_isSpan n I A J t x1 x2)
def qs0m1_X11_isSpan (n : Nat) (I : Nat → Nat → Int32) (A : Nat → Nat → Int32) (J : Nat → Nat → Int64) (t : Bool × Bool) (x1 : Int32) (x2 : Int32) : Int32 := if x1 < 0 then 0 else (qs0m6_X11_isSpan n I A J t x1 x2)
def px_X11_isSpan (n : Nat) (I : Nat → Nat → Int32) (A : Nat → Nat → Int32) (J : Nat → Nat → Int64) (t : Bool × Bool) (x1 : Int32) (x2 : Int32) : Int32 := (qs0m1_X11_isSpan n I A J t x1 x2)
set_option maxRecDepth 100000 in
set_option maxHeartbeats 4000000 in
theorem cv_X11_isSpan (g : cw_G) (n : Nat) (I : Nat → Nat → Int32) (A : Nat → Nat → Int32) (J : Nat → Nat → Int64) (t : Bool × Bool) (x1 : Int32) (x2 : Int32) : Cd g mX11_isSpan [(.int x1), (.int x2)] (hp g I A J t) (some (.int (px_X11_isSpan n I A J t x1 x2))) (hp g I A J t) := by
  unfold px_X11_isSpan
  refine Cd.of rfl (Nat.le_of_ble_eq_true rfl) (ev_gen (fun Q hQ => ?_))
  refine ev_iload_n (pc := 0) dX11_isSpan_0 rfl ?_
  refine ev_cut (pj := 20) (Lj := [some (.int x1), some (.int x2)]) (stj := [(.int (qs0m1_X11_isSpan n I A J t x1 x2))]) (σj := hp g I A J t) ?_ (fun hJ_1 => ?_)
  rotate_left
  · refine ev_if_lt (pc := 1) (tgt := 19) dX11_isSpan_1 (by decide) (fun c_1 => ?_) (fun c_1 => ?_)
    · refine ev_iconst (pc := 19) (v := 0) dX11_isSpan_19 (by decide) ?_
      simp only [qs0m1_X11_isSpan, if_pos c_1] at hJ_1
      exact ev_loc hJ_1 cw_le0
    · refine ev_iload_n (pc := 4) dX11_isSpan_4 rfl ?_
      refine ev_iload_n (pc := 5) dX11_isSpan_5 rfl ?_
      refine ev_cut (pj := 20) (Lj := [some (.int x1), some (.int x2)]) (stj := [(.int (qs0m6_X11_isSpan n I A J t x1 x2))]) (σj := hp g I A J t) ?_ (fun hJ_6 => ?_)
      rotate_left
      · refine ev_icmp_ge (pc := 6) (tgt := 19) dX11_isSpan_6 (by decide) (fun c_6 => ?_) (fun c_6 => ?_)
        · refine ev_iconst (pc := 19) (v := 0) dX11_isSpan_19 (by decide) ?_
          simp only [qs0m6_X11_isSpan, if_pos c_6] at hJ_6
          exact ev_loc hJ_6 cw_le0
        · refine ev_iload_n (pc := 9) dX11_isSpan_9 rfl ?_
          refine ev_bipush (pc := 10) (v := 24) dX11_isSpan_10 (by decide) ?_
          refine ev_cut (pj := 20) (Lj := [some (.int x1), some (.int x2)]) (stj := [(.int (qs0m12_X11_isSpan n I A J t x1 x2))]) (σj := hp g I A J t) ?_ (fun hJ_12 => ?_)
          rotate_left
          · refine ev_icmp_gt (pc := 12) (tgt := 19) dX11_isSpan_12 (by decide) (fun c_12 => ?_) (fun c_12 => ?_)
            · refine ev_iconst (pc := 19) (v := 0) dX11_isSpan_19 (by decide) ?_
              simp only [qs0m12_X11_isSpan, if_pos c_12] at hJ_12
              exact ev_loc hJ_12 cw_le0
            · refine ev_iconst (pc := 15) (v := 1) dX11_isSpan_15 (by decide) ?_
              refine ev_goto (pc := 16) (tgt := 20) dX11_isSpan_16 (by decide) ?_
              simp only [qs0m12_X11_isSpan, if_neg c_12] at hJ_12
              exact ev_loc hJ_12 cw_le0
          simp only [qs0m6_X11_isSpan, if_neg c_6] at hJ_6
          exact ev_loc hJ_6 cw_le0
      simp only [qs0m1_X11_isSpan, if_neg c_1] at hJ_1
      exact ev_loc hJ_1 cw_le0
  exact ev_zret (pc := 20) dX11_isSpan_20 rfl (cw_nz (cw_ite (Or.inl rfl) (cw_ite (Or.inl rfl) (cw_ite (Or.inl rfl) (Or.inr rfl))))) (by decide) (by decide) (hQ _ _ ⟨rfl, rfl⟩)

theorem z1_X11_isSpan (n : Nat) (I : Nat → Nat → Int32) (A : Nat → Nat → Int32) (J : Nat → Nat → Int64) (t : Bool × Bool) (x1 : Int32) (x2 : Int32) : px_X11_isSpan n I A J t x1 x2 = 0 ∨ px_X11_isSpan n I A J t x1 x2 = 1 := (cw_ite (Or.inl rfl) (cw_ite (Or.inl rfl) (cw_ite (Or.inl rfl) (Or.inr rfl))))

def px_X11_seasonOf (n : Nat) (I : Nat → Nat → Int32) (A : Nat → Nat → Int32) (J : Nat → Nat → Int64) (t : Bool × Bool) (x1 : Int32) : Int32 := (cw_rem (x1 / 90) 4)
set_option maxRecDepth 100000 in
set_option maxHeartbeats 4000000 in
theorem cv_X11_seasonOf (g : cw_G) (n : Nat) (I : Nat → Nat → Int32) (A : Nat → Nat → Int32) (J : Nat → Nat → Int64) (t : Bool × Bool) (x1 : Int32) : Cd g mX11_seasonOf [(.int x1)] (hp g I A J t) (some (.int (px_X11_seasonOf n I A J t x1))) (hp g I A J t) := by
  unfold px_X11_seasonOf
  refine Cd.of rfl (Nat.le_of_ble_eq_true rfl) (ev_gen (fun Q hQ => ?_))
  refine ev_iload_n (pc := 0) dX11_seasonOf_0 rfl ?_
  refine ev_bipush (pc := 1) (v := 90) dX11_seasonOf_1 (by decide) ?_
  refine ev_idiv (pc := 3) dX11_seasonOf_3 (by decide) ?_
  refine ev_iconst (pc := 4) (v := 4) dX11_seasonOf_4 (by decide) ?_
  refine ev_rem (pc := 5) dX11_seasonOf_5 (by decide) ?_
  exact ev_iret (pc := 6) dX11_seasonOf_6 rfl (by decide) (by decide) (hQ _ _ ⟨rfl, rfl⟩)

def qs0m1_J9_abs_0f7a4 (n : Nat) (I : Nat → Nat → Int32) (A : Nat → Nat → Int32) (J : Nat → Nat → Int64) (t : Bool × Bool) (x1 : Int32) : Int32 := if 0 ≤ x1 then x1 else (-x1)
def px_J9_abs_0f7a4 (n : Nat) (I : Nat → Nat → Int32) (A : Nat → Nat → Int32) (J : Nat → Nat → Int64) (t : Bool × Bool) (x1 : Int32) : Int32 := (qs0m1_J9_abs_0f7a4 n I A J t x1)
set_option maxRecDepth 100000 in
set_option maxHeartbeats 4000000 in
theorem cv_J9_abs_0f7a4 (g : cw_G) (n : Nat) (I : Nat → Nat → Int32) (A : Nat → Nat → Int32) (J : Nat → Nat → Int64) (t : Bool × Bool) (x1 : Int32) : Cd g mJ9_abs_0f7a4 [(.int x1)] (hp g I A J t) (some (.int (px_J9_abs_0f7a4 n I A J t x1))) (hp g I A J t) := by
  unfold px_J9_abs_0f7a4
  refine Cd.ofF (by decide +kernel) (Nat.le_of_ble_eq_true rfl) (ev_gen (fun Q hQ => ?_))
  refine ev_iload_n (pc := 0) dJ9_abs_0f7a4_0 rfl ?_
  refine ev_cut (pj := 10) (Lj := [some (.int x1)]) (stj := [(.int (qs0m1_J9_abs_0f7a4 n I A J t x1))]) (σj := hp g I A J t) ?_ (fun hJ_1 => ?_)
  rotate_left
  · refine ev_if_ge (pc := 1) (tgt := 9) dJ9_abs_0f7a4_1 (by decide) (fun c_1 => ?_) (fun c_1 => ?_)
    · refine ev_iload_n (pc := 9) dJ9_abs_0f7a4_9 rfl ?_
      simp only [qs0m1_J9_abs_0f7a4, if_pos c_1] at hJ_1
      exact ev_loc hJ_1 cw_le0
    · refine ev_iload_n (pc := 4) dJ9_abs_0f7a4_4 rfl ?_
      refine ev_ineg (pc := 5) dJ9_abs_0f7a4_5 ?_
      refine ev_goto (pc := 6) (tgt := 10) dJ9_abs_0f7a4_6 (by decide) ?_
      simp only [qs0m1_J9_abs_0f7a4, if_neg c_1] at hJ_1
      exact ev_loc hJ_1 cw_le0
  exact ev_iret (pc := 10) dJ9_abs_0f7a4_10 rfl (by decide) (by decide) (hQ _ _ ⟨rfl, rfl⟩)

def qs0m2_J9_max_7cf53 (n : Nat) (I : Nat → Nat → Int32) (A : Nat → Nat → Int32) (J : Nat → Nat → Int64) (t : Bool × Bool) (x1 : Int32) (x2 : Int32) : Int32 := if x1 < x2 then x2 else x1
def px_J9_max_7cf53 (n : Nat) (I : Nat → Nat → Int32) (A : Nat → Nat → Int32) (J : Nat → Nat → Int64) (t : Bool × Bool) (x1 : Int32) (x2 : Int32) : Int32 := (qs0m2_J9_max_7cf53 n I A J t x1 x2)
set_option maxRecDepth 100000 in
set_option maxHeartbeats 4000000 in
theorem cv_J9_max_7cf53 (g : cw_G) (n : Nat) (I : Nat → Nat → Int32) (A : Nat → Nat → Int32) (J : Nat → Nat → Int64) (t : Bool × Bool) (x1 : Int32) (x2 : Int32) : Cd g mJ9_max_7cf53 [(.int x1), (.int x2)] (hp g I A J t) (some (.int (px_J9_max_7cf53 n I A J t x1 x2))) (hp g I A J t) := by
  unfold px_J9_max_7cf53
  refine Cd.ofF (by decide +kernel) (Nat.le_of_ble_eq_true rfl) (ev_gen (fun Q hQ => ?_))
  refine ev_iload_n (pc := 0) dJ9_max_7cf53_0 rfl ?_
  refine ev_iload_n (pc := 1) dJ9_max_7cf53_1 rfl ?_
  refine ev_cut (pj := 10) (Lj := [some (.int x1), some (.int x2)]) (stj := [(.int (qs0m2_J9_max_7cf53 n I A J t x1 x2))]) (σj := hp g I A J t) ?_ (fun hJ_2 => ?_)
  rotate_left
  · refine ev_icmp_lt (pc := 2) (tgt := 9) dJ9_max_7cf53_2 (by decide) (fun c_2 => ?_) (fun c_2 => ?_)
    · refine ev_iload_n (pc := 9) dJ9_max_7cf53_9 rfl ?_
      simp only [qs0m2_J9_max_7cf53, if_pos c_2] at hJ_2
      exact ev_loc hJ_2 cw_le0
    · refine ev_iload_n (pc := 5) dJ9_max_7cf53_5 rfl ?_
      refine ev_goto (pc := 6) (tgt := 10) dJ9_max_7cf53_6 (by decide) ?_
      simp only [qs0m2_J9_max_7cf53, if_neg c_2] at hJ_2
      exact ev_loc hJ_2 cw_le0
  exact ev_iret (pc := 10) dJ9_max_7cf53_10 rfl (by decide) (by decide) (hQ _ _ ⟨rfl, rfl⟩)

def qs0m2_J9_min_7cf53 (n : Nat) (I : Nat → Nat → Int32) (A : Nat → Nat → Int32) (J : Nat → Nat → Int64) (t : Bool × Bool) (x1 : Int32) (x2 : Int32) : Int32 := if x2 < x1 then x2 else x1
def px_J9_min_7cf53 (n : Nat) (I : Nat → Nat → Int32) (A : Nat → Nat → Int32) (J : Nat → Nat → Int64) (t : Bool × Bool) (x1 : Int32) (x2 : Int32) : Int32 := (qs0m2_J9_min_7cf53 n I A J t x1 x2)
set_option maxRecDepth 100000 in
set_option maxHeartbeats 4000000 in
theorem cv_J9_min_7cf53 (g : cw_G) (n : Nat) (I : Nat → Nat → Int32) (A : Nat → Nat → Int32) (J : Nat → Nat → Int64) (t : Bool × Bool) (x1 : Int32) (x2 : Int32) : Cd g mJ9_min_7cf53 [(.int x1), (.int x2)] (hp g I A J t) (some (.int (px_J9_min_7cf53 n I A J t x1 x2))) (hp g I A J t) := by
  unfold px_J9_min_7cf53
  refine Cd.ofF (by decide +kernel) (Nat.le_of_ble_eq_true rfl) (ev_gen (fun Q hQ => ?_))
  refine ev_iload_n (pc := 0) dJ9_min_7cf53_0 rfl ?_
  refine ev_iload_n (pc := 1) dJ9_min_7cf53_1 rfl ?_
  refine ev_cut (pj := 10) (Lj := [some (.int x1), some (.int x2)]) (stj := [(.int (qs0m2_J9_min_7cf53 n I A J t x1 x2))]) (σj := hp g I A J t) ?_ (fun hJ_2 => ?_)
  rotate_left
  · refine ev_icmp_gt (pc := 2) (tgt := 9) dJ9_min_7cf53_2 (by decide) (fun c_2 => ?_) (fun c_2 => ?_)
    · refine ev_iload_n (pc := 9) dJ9_min_7cf53_9 rfl ?_
      simp only [qs0m2_J9_min_7cf53, if_pos c_2] at hJ_2
      exact ev_loc hJ_2 cw_le0
    · refine ev_iload_n (pc := 5) dJ9_min_7cf53_5 rfl ?_
      refine ev_goto (pc := 6) (tgt := 10) dJ9_min_7cf53_6 (by decide) ?_
      simp only [qs0m2_J9_min_7cf53, if_neg c_2] at hJ_2
      exact ev_loc hJ_2 cw_le0
  exact ev_iret (pc := 10) dJ9_min_7cf53_10 rfl (by decide) (by decide) (hQ _ _ ⟨rfl, rfl⟩)

def q3_J9_floorDiv_7cf53 (n : Nat) (I : Nat → Nat → Int32) (A : Nat → Nat → Int32) (J : Nat → Nat → Int64) (t : Bool × Bool) (x1 : Int32) (x2 : Int32) : Int32 := (x1 / x2)
def pb_J9_floorDiv_7cf53 (n : Nat) (I : Nat → Nat → Int32) (A : Nat → Nat → Int32) (J : Nat → Nat → Int64) (t : Bool × Bool) (x1 : Int32) (x2 : Int32) : Prop := ¬ x2 = 0
def px_J9_floorDiv_7cf53 (n : Nat) (I : Nat → Nat → Int32) (A : Nat → Nat → Int32) (J : Nat → Nat → Int64) (t : Bool × Bool) (x1 : Int32) (x2 : Int32) : Int32 := (if 0 ≤ (x1 ^^^ x2) then (q3_J9_floorDiv_7cf53 n I A J t x1 x2) else (if ((q3_J9_floorDiv_7cf53 n I A J t x1 x2) * x2) = x1 then (q3_J9_floorDiv_7cf53 n I A J t x1 x2) else ((q3_J9_floorDiv_7cf53 n I A J t x1 x2) - 1)))
set_option maxRecDepth 100000 in
set_option maxHeartbeats 4000000 in
theorem cv_J9_floorDiv_7cf53 (g : cw_G) (n : Nat) (I : Nat → Nat → Int32) (A : Nat → Nat → Int32) (J : Nat → Nat → Int64) (t : Bool × Bool) (x1 : Int32) (x2 : Int32) (hb : pb_J9_floorDiv_7cf53 n I A J t x1 x2) : Cd g mJ9_floorDiv_7cf53 [(.int x1), (.int x2)] (hp g I A J t) (some (.int (px_J9_floorDiv_7cf53 n I A J t x1 x2))) (hp g I A J t) := by
  unfold pb_J9_floorDiv_7cf53 at hb
  unfold px_J9_floorDiv_7cf53
  refine Cd.ofF (by decide +kernel) (Nat.le_of_ble_eq_true rfl) (ev_gen (fun Q hQ => ?_))
  refine ev_iload_n (pc := 0) dJ9_floorDiv_7cf53_0 rfl ?_
  refine ev_iload_n (pc := 1) dJ9_floorDiv_7cf53_1 rfl ?_
  refine ev_idiv (pc := 2) dJ9_floorDiv_7cf53_2 hb ?_
  refine ev_is (y := (q3_J9_floorDiv_7cf53 n I A J t x1 x2)) rfl ?_
  refine ev_istore_2 (pc := 3) dJ9_floorDiv_7cf53_3 (by decide) rfl ?_
  refine ev_iload_n (pc := 4) dJ9_floorDiv_7cf53_4 rfl ?_
  refine ev_iload_n (pc := 5) dJ9_floorDiv_7cf53_5 rfl ?_
  refine ev_ixor (pc := 6) dJ9_floorDiv_7cf53_6 ?_
  refine ev_if_ge (pc := 7) (tgt := 21) dJ9_floorDiv_7cf53_7 (by decide) (fun c_7 => ?_) (fun c_7 => ?_)
  · try simp only [if_pos c_7] at hQ
    refine ev_iload_n (pc := 21) dJ9_floorDiv_7cf53_21 rfl ?_
    exact ev_iret (pc := 22) dJ9_floorDiv_7cf53_22 rfl (by decide) (by decide) (hQ _ _ ⟨rfl, rfl⟩)
  · try simp only [if_neg c_7] at hQ
    refine ev_iload_n (pc := 10) dJ9_floorDiv_7cf53_10 rfl ?_
    refine ev_iload_n (pc := 11) dJ9_floorDiv_7cf53_11 rfl ?_
    refine ev_imul (pc := 12) dJ9_floorDiv_7cf53_12 ?_
    refine ev_iload_n (pc := 13) dJ9_floorDiv_7cf53_13 rfl ?_
    refine ev_icmp_eq (pc := 14) (tgt := 21) dJ9_floorDiv_7cf53_14 (by decide) (fun c_14 => ?_) (fun c_14 => ?_)
    · try simp only [if_pos c_14] at hQ
      refine ev_iload_n (pc := 21) dJ9_floorDiv_7cf53_21 rfl ?_
      exact ev_iret (pc := 22) dJ9_floorDiv_7cf53_22 rfl (by decide) (by decide) (hQ _ _ ⟨rfl, rfl⟩)
    · try simp only [if_neg c_14] at hQ
      refine ev_iload_n (pc := 17) dJ9_floorDiv_7cf53_17 rfl ?_
      refine ev_iconst (pc := 18) (v := 1) dJ9_floorDiv_7cf53_18 (by decide) ?_
      refine ev_isub (pc := 19) dJ9_floorDiv_7cf53_19 ?_
      exact ev_iret (pc := 20) dJ9_floorDiv_7cf53_20 rfl (by decide) (by decide) (hQ _ _ ⟨rfl, rfl⟩)

def qs0m11_J6_compare_7cf53 (n : Nat) (I : Nat → Nat → Int32) (A : Nat → Nat → Int32) (J : Nat → Nat → Int64) (t : Bool × Bool) (x1 : Int32) (x2 : Int32) : Int32 := if x1 = x2 then 0 else 1
def qs0m2_J6_compare_7cf53 (n : Nat) (I : Nat → Nat → Int32) (A : Nat → Nat → Int32) (J : Nat → Nat → Int64) (t : Bool × Bool) (x1 : Int32) (x2 : Int32) : Int32 := if x2 ≤ x1 then (qs0m11_J6_compare_7cf53 n I A J t x1 x2) else (-1)
def px_J6_compare_7cf53 (n : Nat) (I : Nat → Nat → Int32) (A : Nat → Nat → Int32) (J : Nat → Nat → Int64) (t : Bool × Bool) (x1 : Int32) (x2 : Int32) : Int32 := (qs0m2_J6_compare_7cf53 n I A J t x1 x2)
set_option maxRecDepth 100000 in
set_option maxHeartbeats 4000000 in
theorem cv_J6_compare_7cf53 (g : cw_G) (n : Nat) (I : Nat → Nat → Int32) (A : Nat → Nat → Int32) (J : Nat → Nat → Int64) (t : Bool × Bool) (x1 : Int32) (x2 : Int32) : Cd g mJ6_compare_7cf53 [(.int x1), (.int x2)] (hp g I A J t) (some (.int (px_J6_compare_7cf53 n I A J t x1 x2))) (hp g I A J t) := by
  unfold px_J6_compare_7cf53
  refine Cd.of rfl (Nat.le_of_ble_eq_true rfl) (ev_gen (fun Q hQ => ?_))
  refine ev_iload_n (pc := 0) dJ6_compare_7cf53_0 rfl ?_
  refine ev_iload_n (pc := 1) dJ6_compare_7cf53_1 rfl ?_
  refine ev_cut (pj := 19) (Lj := [some (.int x1), some (.int x2)]) (stj := [(.int (qs0m2_J6_compare_7cf53 n I A J t x1 x2))]) (σj := hp g I A J t) ?_ (fun hJ_2 => ?_)
  rotate_left
  · refine ev_icmp_ge (pc := 2) (tgt := 9) dJ6_compare_7cf53_2 (by decide) (fun c_2 => ?_) (fun c_2 => ?_)
    · refine ev_iload_n (pc := 9) dJ6_compare_7cf53_9 rfl ?_
      refine ev_iload_n (pc := 10) dJ6_compare_7cf53_10 rfl ?_
      refine ev_cut (pj := 19) (Lj := [some (.int x1), some (.int x2)]) (stj := [(.int (qs0m11_J6_compare_7cf53 n I A J t x1 x2))]) (σj := hp g I A J t) ?_ (fun hJ_11 => ?_)
      rotate_left
      · refine ev_icmp_ne (pc := 11) (tgt := 18) dJ6_compare_7cf53_11 (by decide) (fun c_11 => ?_) (fun c_11 => ?_)
        · refine ev_iconst (pc := 18) (v := 1) dJ6_compare_7cf53_18 (by decide) ?_
          simp only [qs0m11_J6_compare_7cf53, if_neg c_11] at hJ_11
          exact ev_loc hJ_11 cw_le0
        · refine ev_iconst (pc := 14) (v := 0) dJ6_compare_7cf53_14 (by decide) ?_
          refine ev_goto (pc := 15) (tgt := 19) dJ6_compare_7cf53_15 (by decide) ?_
          simp only [qs0m11_J6_compare_7cf53, if_pos c_11] at hJ_11
          exact ev_loc hJ_11 cw_le0
      simp only [qs0m2_J6_compare_7cf53, if_pos c_2] at hJ_2
      exact ev_loc hJ_2 cw_le0
    · refine ev_iconst (pc := 5) (v := (-1)) dJ6_compare_7cf53_5 (by decide) ?_
      refine ev_goto (pc := 6) (tgt := 19) dJ6_compare_7cf53_6 (by decide) ?_
      simp only [qs0m2_J6_compare_7cf53, if_neg c_2] at hJ_2
      exact ev_loc hJ_2 cw_le0
  exact ev_iret (pc := 19) dJ6_compare_7cf53_19 rfl (by decide) (by decide) (hQ _ _ ⟨rfl, rfl⟩)
