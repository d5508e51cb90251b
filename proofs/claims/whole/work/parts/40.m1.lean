def qs0m9_X12_isDigit (n : Nat) (I : Nat → Nat → Int32) (A : Nat → Nat → Int32) (J : Nat → Nat → Int64) (t : Bool × Bool) (x1 : Int32) : Int32 := if 57 < x1 then 0 else 1
def qs0m3_X12_isDigit (n : Nat) (I : Nat → Nat → Int32) (A : Nat → Nat → Int32) (J : Nat → Nat → Int64) (t : Bool × Bool) (x1 : Int32) : Int32 := if x1 < 48 then 0 else (qs0m9_X12_isDigit n I A J t x1)
def px_X12_isDigit (n : Nat) (I : Nat → Nat → Int32) (A : Nat → Nat → Int32) (J : Nat → Nat → Int64) (t : Bool × Bool) (x1 : Int32) : Int32 := (qs0m3_X12_isDigit n I A J t x1)
set_option maxRecDepth 100000 in
set_option maxHeartbeats 4000000 in
theorem cv_X12_isDigit (g : cw_G) (n : Nat) (I : Nat → Nat → Int32) (A : Nat → Nat → Int32) (J : Nat → Nat → Int64) (t : Bool × Bool) (x1 : Int32) : Cd g mX12_isDigit [(.int x1)] (hp g I A J t) (some (.int (px_X12_isDigit n I A J t x1))) (hp g I A J t) := by
  unfold px_X12_isDigit
  refine Cd.of rfl (Nat.le_of_ble_eq_true rfl) (ev_gen (fun Q hQ => ?_))
  refine ev_iload_n (pc := 0) dX12_isDigit_0 rfl ?_
  refine ev_bipush (pc := 1) (v := 48) dX12_isDigit_1 (by decide) ?_
  refine ev_cut (pj := 17) (Lj := [some (.int x1)]) (stj := [(.int (qs0m3_X12_isDigit n I A J t x1))]) (σj := hp g I A J t) ?_ (fun hJ_3 => ?_)
  rotate_left
  · refine ev_icmp_lt (pc := 3) (tgt := 16) dX12_isDigit_3 (by decide) (fun c_3 => ?_) (fun c_3 => ?_)
    · refine ev_iconst (pc := 16) (v := 0) dX12_isDigit_16 (by decide) ?_
      simp only [qs0m3_X12_isDigit, if_pos c_3] at hJ_3
      exact ev_loc hJ_3 cw_le0
    · refine ev_iload_n (pc := 6) dX12_isDigit_6 rfl ?_
      refine ev_bipush (pc := 7) (v := 57) dX12_isDigit_7 (by decide) ?_
      refine ev_cut (pj := 17) (Lj := [some (.int x1)]) (stj := [(.int (qs0m9_X12_isDigit n I A J t x1))]) (σj := hp g I A J t) ?_ (fun hJ_9 => ?_)
      rotate_left
      · refine ev_icmp_gt (pc := 9) (tgt := 16) dX12_isDigit_9 (by decide) (fun c_9 => ?_) (fun c_9 => ?_)
        · refine ev_iconst (pc := 16) (v := 0) dX12_isDigit_16 (by decide) ?_
          simp only [qs0m9_X12_isDigit, if_pos c_9] at hJ_9
          exact ev_loc hJ_9 cw_le0
        · refine ev_iconst (pc := 12) (v := 1) dX12_isDigit_12 (by decide) ?_
          refine ev_goto (pc := 13) (tgt := 17) dX12_isDigit_13 (by decide) ?_
          simp only [qs0m9_X12_isDigit, if_neg c_9] at hJ_9
          exact ev_loc hJ_9 cw_le0
      simp only [qs0m3_X12_isDigit, if_neg c_3] at hJ_3
      exact ev_loc hJ_3 cw_le0
  exact ev_zret (pc := 17) dX12_isDigit_17 rfl (cw_nz (cw_ite (Or.inl rfl) (cw_ite (Or.inl rfl) (Or.inr rfl)))) (by decide) (by decide) (hQ _ _ ⟨rfl, rfl⟩)

theorem z1_X12_isDigit (n : Nat) (I : Nat → Nat → Int32) (A : Nat → Nat → Int32) (J : Nat → Nat → Int64) (t : Bool × Bool) (x1 : Int32) : px_X12_isDigit n I A J t x1 = 0 ∨ px_X12_isDigit n I A J t x1 = 1 := (cw_ite (Or.inl rfl) (cw_ite (Or.inl rfl) (Or.inr rfl)))

def qs0m9_X12_isLetter (n : Nat) (I : Nat → Nat → Int32) (A : Nat → Nat → Int32) (J : Nat → Nat → Int64) (t : Bool × Bool) (x1 : Int32) : Int32 := if 122 < x1 then 0 else 1
def qs0m3_X12_isLetter (n : Nat) (I : Nat → Nat → Int32) (A : Nat → Nat → Int32) (J : Nat → Nat → Int64) (t : Bool × Bool) (x1 : Int32) : Int32 := if x1 < 97 then 0 else (qs0m9_X12_isLetter n I A J t x1)
def px_X12_isLetter (n : Nat) (I : Nat → Nat → Int32) (A : Nat → Nat → Int32) (J : Nat → Nat → Int64) (t : Bool × Bool) (x1 : Int32) : Int32 := (qs0m3_X12_isLetter n I A J t x1)
set_option maxRecDepth 100000 in
set_option maxHeartbeats 4000000 in
theorem cv_X12_isLetter (g : cw_G) (n : Nat) (I : Nat → Nat → Int32) (A : Nat → Nat → Int32) (J : Nat → Nat → Int64) (t : Bool × Bool) (x1 : Int32) : Cd g mX12_isLetter [(.int x1)] (hp g I A J t) (some (.int (px_X12_isLetter n I A J t x1))) (hp g I A J t) := by
  unfold px_X12_isLetter
  refine Cd.of rfl (Nat.le_of_ble_eq_true rfl) (ev_gen (fun Q hQ => ?_))
  refine ev_iload_n (pc := 0) dX12_isLetter_0 rfl ?_
  refine ev_bipush (pc := 1) (v := 97) dX12_isLetter_1 (by decide) ?_
  refine ev_cut (pj := 17) (Lj := [some (.int x1)]) (stj := [(.int (qs0m3_X12_isLetter n I A J t x1))]) (σj := hp g I A J t) ?_ (fun hJ_3 => ?_)
  rotate_left
  · refine ev_icmp_lt (pc := 3) (tgt := 16) dX12_isLetter_3 (by decide) (fun c_3 => ?_) (fun c_3 => ?_)
    · refine ev_iconst (pc := 16) (v := 0) dX12_isLetter_16 (by decide) ?_
      simp only [qs0m3_X12_isLetter, if_pos c_3] at hJ_3
      exact ev_loc hJ_3 cw_le0
    · refine ev_iload_n (pc := 6) dX12_isLetter_6 rfl ?_
      refine ev_bipush (pc := 7) (v := 122) dX12_isLetter_7 (by decide) ?_
      refine ev_cut (pj := 17) (Lj := [some (.int x1)]) (stj := [(.int (qs0m9_X12_isLetter n I A J t x1))]) (σj := hp g I A J t) ?_ (fun hJ_9 => ?_)
      rotate_left
      · refine ev_icmp_gt (pc := 9) (tgt := 16) dX12_isLetter_9 (by decide) (fun c_9 => ?_) (fun c_9 => ?_)
        · refine ev_iconst (pc := 16) (v := 0) dX12_isLetter_16 (by decide) ?_
          simp only [qs0m9_X12_isLetter, if_pos c_9] at hJ_9
          exact ev_loc hJ_9 cw_le0
        · refine ev_iconst (pc := 12) (v := 1) dX12_isLetter_12 (by decide) ?_
          refine ev_goto (pc := 13) (tgt := 17) dX12_isLetter_13 (by decide) ?_
          simp only [qs0m9_X12_isLetter, if_neg c_9] at hJ_9
          exact ev_loc hJ_9 cw_le0
      simp only [qs0m3_X12_isLetter, if_neg c_3] at hJ_3
      exact ev_loc hJ_3 cw_le0
  exact ev_zret (pc := 17) dX12_isLetter_17 rfl (cw_nz (cw_ite (Or.inl rfl) (cw_ite (Or.inl rfl) (Or.inr rfl)))) (by decide) (by decide) (hQ _ _ ⟨rfl, rfl⟩)

theorem z1_X12_isLetter (n : Nat) (I : Nat → Nat → Int32) (A : Nat → Nat → Int32) (J : Nat → Nat → Int64) (t : Bool × Bool) (x1 : Int32) : px_X12_isLetter n I A J t x1 = 0 ∨ px_X12_isLetter n I A J t x1 = 1 := (cw_ite (Or.inl rfl) (cw_ite (Or.inl rfl) (Or.inr rfl)))

def qs0m1_X12_more (n : Nat) (I : Nat → Nat → Int32) (A : Nat → Nat → Int32) (J : Nat → Nat → Int64) (t : Bool × Bool) (x1 : Int64) (x2 : Int32) : Int64 := if x2 = 0 then x1 else (((27 : Int64) * x1) + (((x2 - 97) + 1)).toInt64)
def px_X12_more (n : Nat) (I : Nat → Nat → Int32) (A : Nat → Nat → Int32) (J : Nat → Nat → Int64) (t : Bool × Bool) (x1 : Int64) (x2 : Int32) : Int64 := (qs0m1_X12_more n I A J t x1 x2)
set_option maxRecDepth 100000 in
set_option maxHeartbeats 4000000 in
theorem cv_X12_more (g : cw_G) (n : Nat) (I : Nat → Nat → Int32) (A : Nat → Nat → Int32) (J : Nat → Nat → Int64) (t : Bool × Bool) (x1 : Int64) (x2 : Int32) : Cd g mX12_more [(.long x1), (.int x2)] (hp g I A J t) (some (.long (px_X12_more n I A J t x1 x2))) (hp g I A J t) := by
  unfold px_X12_more
  refine Cd.of rfl (Nat.le_of_ble_eq_true rfl) (ev_gen (fun Q hQ => ?_))
  refine ev_iload_n (pc := 0) dX12_more_0 rfl ?_
  refine ev_cut (pj := 21) (Lj := [some (.long x1), none, some (.int x2)]) (stj := [(.long (qs0m1_X12_more n I A J t x1 x2))]) (σj := hp g I A J t) ?_ (fun hJ_1 => ?_)
  rotate_left
  · refine ev_if_ne (pc := 1) (tgt := 8) dX12_more_1 (by decide) (fun c_1 => ?_) (fun c_1 => ?_)
    · refine ev_ldc2 (pc := 8) dX12_more_8 ks_X12_187 ?_
      refine ev_lload_n (pc := 11) dX12_more_11 rfl ?_
      refine ev_lmul (pc := 12) dX12_more_12 ?_
      refine ev_iload_n (pc := 13) dX12_more_13 rfl ?_
      refine ev_bipush (pc := 14) (v := 97) dX12_more_14 (by decide) ?_
      refine ev_isub (pc := 16) dX12_more_16 ?_
      refine ev_iconst (pc := 17) (v := 1) dX12_more_17 (by decide) ?_
      refine ev_iadd (pc := 18) dX12_more_18 ?_
      refine ev_i2l (pc := 19) dX12_more_19 ?_
      refine ev_ladd (pc := 20) dX12_more_20 ?_
      simp only [qs0m1_X12_more, if_neg c_1] at hJ_1
      exact ev_loc hJ_1 cw_le0
    · refine ev_lload_n (pc := 4) dX12_more_4 rfl ?_
      refine ev_goto (pc := 5) (tgt := 21) dX12_more_5 (by decide) ?_
      simp only [qs0m1_X12_more, if_pos c_1] at hJ_1
      exact ev_loc hJ_1 cw_le0
  exact ev_lret (pc := 21) dX12_more_21 rfl (by decide) (by decide) (hQ _ _ ⟨rfl, rfl⟩)

def px_X12_word (n : Nat) (I : Nat → Nat → Int32) (A : Nat → Nat → Int32) (J : Nat → Nat → Int64) (t : Bool × Bool) (x1 : Int32) (x2 : Int32) (x3 : Int32) (x4 : Int32) (x5 : Int32) (x6 : Int32) : Int64 := (px_X12_more n I A J t (px_X12_more n I A J t (px_X12_more n I A J t (px_X12_more n I A J t (px_X12_more n I A J t (px_X12_more n I A J t 0 x1) x2) x3) x4) x5) x6)
set_option maxRecDepth 100000 in
set_option maxHeartbeats 4000000 in
theorem cv_X12_word (g : cw_G) (n : Nat) (I : Nat → Nat → Int32) (A : Nat → Nat → Int32) (J : Nat → Nat → Int64) (t : Bool × Bool) (x1 : Int32) (x2 : Int32) (x3 : Int32) (x4 : Int32) (x5 : Int32) (x6 : Int32) : Cd g mX12_word [(.int x1), (.int x2), (.int x3), (.int x4), (.int x5), (.int x6)] (hp g I A J t) (some (.long (px_X12_word n I A J t x1 x2 x3 x4 x5 x6))) (hp g I A J t) := by
  unfold px_X12_word
  refine Cd.of rfl (Nat.le_of_ble_eq_true rfl) (ev_gen (fun Q hQ => ?_))
  refine ev_lconst (pc := 0) (v := 0) dX12_word_0 (by decide) ?_
  refine ev_iload_n (pc := 1) dX12_word_1 rfl ?_
  refine ev_Sl (pc := 2) dX12_word_2 lk_X12_189 cd_X12_more ar_X12_more ⟨by decide, rfl, rfl⟩ (cv_X12_more g n I A J t 0 x1) rfl rfl (Nat.le_of_ble_eq_true rfl) ⟨by decide, by decide⟩ ?_
  refine ev_iload_n (pc := 5) dX12_word_5 rfl ?_
  refine ev_Sl (pc := 6) dX12_word_6 lk_X12_189 cd_X12_more ar_X12_more ⟨by decide, rfl, rfl⟩ (cv_X12_more g n I A J t (px_X12_more n I A J t 0 x1) x2) rfl rfl (Nat.le_of_ble_eq_true rfl) ⟨by decide, by decide⟩ ?_
  refine ev_iload_n (pc := 9) dX12_word_9 rfl ?_
  refine ev_Sl (pc := 10) dX12_word_10 lk_X12_189 cd_X12_more ar_X12_more ⟨by decide, rfl, rfl⟩ (cv_X12_more g n I A J t (px_X12_more n I A J t (px_X12_more n I A J t 0 x1) x2) x3) rfl rfl (Nat.le_of_ble_eq_true rfl) ⟨by decide, by decide⟩ ?_
  refine ev_iload_n (pc := 13) dX12_word_13 rfl ?_
  refine ev_Sl (pc := 14) dX12_word_14 lk_X12_189 cd_X12_more ar_X12_more ⟨by decide, rfl, rfl⟩ (cv_X12_more g n I A J t (px_X12_more n I A J t (px_X12_more n I A J t (px_X12_more n I A J t 0 x1) x2) x3) x4) rfl rfl (Nat.le_of_ble_eq_true rfl) ⟨by decide, by decide⟩ ?_
  refine ev_iload (pc := 17) dX12_word_17 rfl ?_
  refine ev_Sl (pc := 19) dX12_word_19 lk_X12_189 cd_X12_more ar_X12_more ⟨by decide, rfl, rfl⟩ (cv_X12_more g n I A J t (px_X12_more n I A J t (px_X12_more n I A J t (px_X12_more n I A J t (px_X12_more n I A J t 0 x1) x2) x3) x4) x5) rfl rfl (Nat.le_of_ble_eq_true rfl) ⟨by decide, by decide⟩ ?_
  refine ev_iload (pc := 22) dX12_word_22 rfl ?_
  refine ev_Sl (pc := 24) dX12_word_24 lk_X12_189 cd_X12_more ar_X12_more ⟨by decide, rfl, rfl⟩ (cv_X12_more g n I A J t (px_X12_more n I A J t (px_X12_more n I A J t (px_X12_more n I A J t (px_X12_more n I A J t (px_X12_more n I A J t 0 x1) x2) x3) x4) x5) x6) rfl rfl (Nat.le_of_ble_eq_true rfl) ⟨by decide, by decide⟩ ?_
  exact ev_lret (pc := 27) dX12_word_27 rfl (by decide) (by decide) (hQ _ _ ⟨rfl, rfl⟩)

def qs0m7_X12_isBand (n : Nat) (I : Nat → Nat → Int32) (A : Nat → Nat → Int32) (J : Nat → Nat → Int64) (t : Bool × Bool) (x1 : Int32) : Int32 := if 6 ≤ x1 then 0 else 1
def qs0m1_X12_isBand (n : Nat) (I : Nat → Nat → Int32) (A : Nat → Nat → Int32) (J : Nat → Nat → Int64) (t : Bool × Bool) (x1 : Int32) : Int32 := if x1 < 0 then 0 else (qs0m7_X12_isBand n I A J t x1)
def px_X12_isBand (n : Nat) (I : Nat → Nat → Int32) (A : Nat → Nat → Int32) (J : Nat → Nat → Int64) (t : Bool × Bool) (x1 : Int32) : Int32 := (qs0m1_X12_isBand n I A J t x1)
set_option maxRecDepth 100000 in
set_option maxHeartbeats 4000000 in
theorem cv_X12_isBand (g : cw_G) (n : Nat) (I : Nat → Nat → Int32) (A : Nat → Nat → Int32) (J : Nat → Nat → Int64) (t : Bool × Bool) (x1 : Int32) : Cd g mX12_isBand [(.int x1)] (hp g I A J t) (some (.int (px_X12_isBand n I A J t x1))) (hp g I A J t) := by
  unfold px_X12_isBand
  refine Cd.of rfl (Nat.le_of_ble_eq_true rfl) (ev_gen (fun Q hQ => ?_))
  refine ev_iload_n (pc := 0) dX12_isBand_0 rfl ?_
  refine ev_cut (pj := 15) (Lj := [some (.int x1)]) (stj := [(.int (qs0m1_X12_isBand n I A J t x1))]) (σj := hp g I A J t) ?_ (fun hJ_1 => ?_)
  rotate_left
  · refine ev_if_lt (pc := 1) (tgt := 14) dX12_isBand_1 (by decide) (fun c_1 => ?_) (fun c_1 => ?_)
    · refine ev_iconst (pc := 14) (v := 0) dX12_isBand_14 (by decide) ?_
      simp only [qs0m1_X12_isBand, if_pos c_1] at hJ_1
      exact ev_loc hJ_1 cw_le0
    · refine ev_iload_n (pc := 4) dX12_isBand_4 rfl ?_
      refine ev_bipush (pc := 5) (v := 6) dX12_isBand_5 (by decide) ?_
      refine ev_cut (pj := 15) (Lj := [some (.int x1)]) (stj := [(.int (qs0m7_X12_isBand n I A J t x1))]) (σj := hp g I A J t) ?_ (fun hJ_7 => ?_)
      rotate_left
      · refine ev_icmp_ge (pc := 7) (tgt := 14) dX12_isBand_7 (by decide) (fun c_7 => ?_) (fun c_7 => ?_)
        · refine ev_iconst (pc := 14) (v := 0) dX12_isBand_14 (by decide) ?_
          simp only [qs0m7_X12_isBand, if_pos c_7] at hJ_7
          exact ev_loc hJ_7 cw_le0
        · refine ev_iconst (pc := 10) (v := 1) dX12_isBand_10 (by decide) ?_
          refine ev_goto (pc := 11) (tgt := 15) dX12_isBand_11 (by decide) ?_
          simp only [qs0m7_X12_isBand, if_neg c_7] at hJ_7
          exact ev_loc hJ_7 cw_le0
      simp only [qs0m1_X12_isBand, if_neg c_1] at hJ_1
      exact ev_loc hJ_1 cw_le0
  exact ev_zret (pc := 15) dX12_isBand_15 rfl (cw_nz (cw_ite (Or.inl rfl) (cw_ite (Or.inl rfl) (Or.inr rfl)))) (by decide) (by decide) (hQ _ _ ⟨rfl, rfl⟩)

theorem z1_X12_isBand (n : Nat) (I : Nat → Nat → Int32) (A : Nat → Nat → Int32) (J : Nat → Nat → Int64) (t : Bool × Bool) (x1 : Int32) : px_X12_isBand n I A J t x1 = 0 ∨ px_X12_isBand n I A J t x1 = 1 := (cw_ite (Or.inl rfl) (cw_ite (Or.inl rfl) (Or.inr rfl)))

def qs0m7_X12_isHour (n : Nat) (I : Nat → Nat → Int32) (A : Nat → Nat → Int32) (J : Nat → Nat → Int64) (t : Bool × Bool) (x1 : Int32) : Int32 := if 24 ≤ x1 then 0 else 1
def qs0m1_X12_isHour (n : Nat) (I : Nat → Nat → Int32) (A : Nat → Nat → Int32) (J : Nat → Nat → Int64) (t : Bool × Bool) (x1 : Int32) : Int32 := if x1 < 0 then 0 else (qs0m7_X12_isHour n I A J t x1)
def px_X12_isHour (n : Nat) (I : Nat → Nat → Int32) (A : Nat → Nat → Int32) (J : Nat → Nat → Int64) (t : Bool × Bool) (x1 : Int32) : Int32 := (qs0m1_X12_isHour n I A J t x1)
set_option maxRecDepth 100000 in
set_option maxHeartbeats 4000000 in
theorem cv_X12_isHour (g : cw_G) (n : Nat) (I : Nat → Nat → Int32) (A : Nat → Nat → Int32) (J : Nat → Nat → Int64) (t : Bool × Bool) (x1 : Int32) : Cd g mX12_isHour [(.int x1)] (hp g I A J t) (some (.int (px_X12_isHour n I A J t x1))) (hp g I A J t) := by
  unfold px_X12_isHour
  refine Cd.of rfl (Nat.le_of_ble_eq_true rfl) (ev_gen (fun Q hQ => ?_))
  refine ev_iload_n (pc := 0) dX12_isHour_0 rfl ?_
  refine ev_cut (pj := 15) (Lj := [some (.int x1)]) (stj := [(.int (qs0m1_X12_isHour n I A J t x1))]) (σj := hp g I A J t) ?_ (fun hJ_1 => ?_)
  rotate_left
  · refine ev_if_lt (pc := 1) (tgt := 14) dX12_isHour_1 (by decide) (fun c_1 => ?_) (fun c_1 => ?_)
    · refine ev_iconst (pc := 14) (v := 0) dX12_isHour_14 (by decide) ?_
      simp only [qs0m1_X12_isHour, if_pos c_1] at hJ_1
      exact ev_loc hJ_1 cw_le0
    · refine ev_iload_n (pc := 4) dX12_isHour_4 rfl ?_
      refine ev_bipush (pc := 5) (v := 24) dX12_isHour_5 (by decide) ?_
      refine ev_cut (pj := 15) (Lj := [some (.int x1)]) (stj := [(.int (qs0m7_X12_isHour n I A J t x1))]) (σj := hp g I A J t) ?_ (fun hJ_7 => ?_)
      rotate_left
      · refine ev_icmp_ge (pc := 7) (tgt := 14) dX12_isHour_7 (by decide) (fun c_7 => ?_) (fun c_7 => ?_)
        · refine ev_iconst (pc := 14) (v := 0) dX12_isHour_14 (by decide) ?_
          simp only [qs0m7_X12_isHour, if_pos c_7] at hJ_7
          exact ev_loc hJ_7 cw_le0
        · refine ev_iconst (pc := 10) (v := 1) dX12_isHour_10 (by decide) ?_
          refine ev_goto (pc := 11) (tgt := 15) dX12_isHour_11 (by decide) ?_
          simp only [qs0m7_X12_isHour, if_neg c_7] at hJ_7
          exact ev_loc hJ_7 cw_le0
      simp only [qs0m1_X12_isHour, if_neg c_1] at hJ_1
      exact ev_loc hJ_1 cw_le0
  exact ev_zret (pc := 15) dX12_isHour_15 rfl (cw_nz (cw_ite (Or.inl rfl) (cw_ite (Or.inl rfl) (Or.inr rfl)))) (by decide) (by decide) (hQ _ _ ⟨rfl, rfl⟩)

theorem z1_X12_isHour (n : Nat) (I : Nat → Nat → Int32) (A : Nat → Nat → Int32) (J : Nat → Nat → Int64) (t : Bool × Bool) (x1 : Int32) : px_X12_isHour n I A J t x1 = 0 ∨ px_X12_isHour n I A J t x1 = 1 := (cw_ite (Or.inl rfl) (cw_ite (Or.inl rfl) (Or.inr rfl)))

def qs0m8_X12_isDay (n : Nat) (I : Nat → Nat → Int32) (A : Nat → Nat → Int32) (J : Nat → Nat → Int64) (t : Bool × Bool) (x1 : Int32) : Int32 := if 3600 ≤ x1 then 0 else 1
def qs0m1_X12_isDay (n : Nat) (I : Nat → Nat → Int32) (A : Nat → Nat → Int32) (J : Nat → Nat → Int64) (t : Bool × Bool) (x1 : Int32) : Int32 := if x1 < 0 then 0 else (qs0m8_X12_isDay n I A J t x1)
def px_X12_isDay (n : Nat) (I : Nat → Nat → Int32) (A : Nat → Nat → Int32) (J : Nat → Nat → Int64) (t : Bool × Bool) (x1 : Int32) : Int32 := (qs0m1_X12_isDay n I A J t x1)
set_option maxRecDepth 100000 in
set_option maxHeartbeats 4000000 in
theorem cv_X12_isDay (g : cw_G) (n : Nat) (I : Nat → Nat → Int32) (A : Nat → Nat → Int32) (J : Nat → Nat → Int64) (t : Bool × Bool) (x1 : Int32) : Cd g mX12_isDay [(.int x1)] (hp g I A J t) (some (.int (px_X12_isDay n I A J t x1))) (hp g I A J t) := by
  unfold px_X12_isDay
  refine Cd.of rfl (Nat.le_of_ble_eq_true rfl) (ev_gen (fun Q hQ => ?_))
  refine ev_iload_n (pc := 0) dX12_isDay_0 rfl ?_
  refine ev_cut (pj := 16) (Lj := [some (.int x1)]) (stj := [(.int (qs0m1_X12_isDay n I A J t x1))]) (σj := hp g I A J t) ?_ (fun hJ_1 => ?_)
  rotate_left
  · refine ev_if_lt (pc := 1) (tgt := 15) dX12_isDay_1 (by decide) (fun c_1 => ?_) (fun c_1 => ?_)
    · refine ev_iconst (pc := 15) (v := 0) dX12_isDay_15 (by decide) ?_
      simp only [qs0m1_X12_isDay, if_pos c_1] at hJ_1
      exact ev_loc hJ_1 cw_le0
    · refine ev_iload_n (pc := 4) dX12_isDay_4 rfl ?_
      refine ev_sipush (pc := 5) (v := 3600) dX12_isDay_5 (by decide) ?_
      refine ev_cut (pj := 16) (Lj := [some (.int x1)]) (stj := [(.int (qs0m8_X12_isDay n I A J t x1))]) (σj := hp g I A J t) ?_ (fun hJ_8 => ?_)
      rotate_left
      · refine ev_icmp_ge (pc := 8) (tgt := 15) dX12_isDay_8 (by decide) (fun c_8 => ?_) (fun c_8 => ?_)
        · refine ev_iconst (pc := 15) (v := 0) dX12_isDay_15 (by decide) ?_
          simp only [qs0m8_X12_isDay, if_pos c_8] at hJ_8
          exact ev_loc hJ_8 cw_le0
        · refine ev_iconst (pc := 11) (v := 1) dX12_isDay_11 (by decide) ?_
          refine ev_goto (pc := 12) (tgt := 16) dX12_isDay_12 (by decide) ?_
          simp only [qs0m8_X12_isDay, if_neg c_8] at hJ_8
          exact ev_loc hJ_8 cw_le0
      simp only [qs0m1_X12_isDay, if_neg c_1] at hJ_1
      exact ev_loc hJ_1 cw_le0
  exact ev_zret (pc := 16) dX12_isDay_16 rfl (cw_nz (cw_ite (Or.inl rfl) (cw_ite (Or.inl rfl) (Or.inr rfl)))) (by decide) (by decide) (hQ _ _ ⟨rfl, rfl⟩)

theorem z1_X12_isDay (n : Nat) (I : Nat → Nat → Int32) (A : Nat → Nat → Int32) (J : Nat → Nat → Int64) (t : Bool × Bool) (x1 : Int32) : px_X12_isDay n I A J t x1 = 0 ∨ px_X12_isDay n I A J t x1 = 1 := (cw_ite (Or.inl rfl) (cw_ite (Or.inl rfl) (Or.inr rfl)))

def qA19_X12_put_68 (n : Nat) (I : Nat → Nat → Int32) (A : Nat → Nat → Int32) (J : Nat → Nat → Int64) (t : Bool × Bool) (x1 : Int32) (I3 : Nat → Nat → Int32) (A3 : Nat → Nat → Int32) (v3_2 : Int32) : Nat → Nat → Int32 := cw_u A3 69 ((I3 68 2)).toNatClampNeg (((x1 >>> (v3_2 &&& 31))).toInt8.toInt32).toInt8.toInt32
def qI27_X12_put_68 (n : Nat) (I : Nat → Nat → Int32) (A : Nat → Nat → Int32) (J : Nat → Nat → Int64) (t : Bool × Bool) (x1 : Int32) (I3 : Nat → Nat → Int32) (A3 : Nat → Nat → Int32) (v3_2 : Int32) : Nat → Nat → Int32 := cw_u I3 68 2 ((I3 68 2) + 1)
def q30_X12_put_68 (n : Nat) (I : Nat → Nat → Int32) (A : Nat → Nat → Int32) (J : Nat → Nat → Int64) (t : Bool × Bool) (x1 : Int32) (I3 : Nat → Nat → Int32) (A3 : Nat → Nat → Int32) (v3_2 : Int32) : Int32 := v3_2 + (-8)
def lp_X12_put_68_3 (n : Nat) (I : Nat → Nat → Int32) (A : Nat → Nat → Int32) (J : Nat → Nat → Int64) (t : Bool × Bool) (x1 : Int32) : Nat → (Nat → Nat → Int32) → (Nat → Nat → Int32) → (Int32) → (Nat → Nat → Int32) × (Nat → Nat → Int32) × Int32
  | 0, I3, A3, v3_2 => (I3, A3, v3_2)
  | f + 1, I3, A3, v3_2 => if v3_2 < 0 then (I3, A3, v3_2) else lp_X12_put_68_3 n I A J t x1 f (qI27_X12_put_68 n I A J t x1 I3 A3 v3_2) (qA19_X12_put_68 n I A J t x1 I3 A3 v3_2) (q30_X12_put_68 n I A J t x1 I3 A3 v3_2)
def lb_X12_put_68_3 (n : Nat) (I : Nat → Nat → Int32) (A : Nat → Nat → Int32) (J : Nat → Nat → Int64) (t : Bool × Bool) (x1 : Int32) : Nat → (Nat → Nat → Int32) → (Nat → Nat → Int32) → (Int32) → Prop
  | 0, _, _, _ => False
  | f + 1, I3, A3, v3_2 => (¬ v3_2 < 0 → vp_in (I3 68 2) 2000 ∧ lb_X12_put_68_3 n I A J t x1 f (qI27_X12_put_68 n I A J t x1 I3 A3 v3_2) (qA19_X12_put_68 n I A J t x1 I3 A3 v3_2) (q30_X12_put_68 n I A J t x1 I3 A3 v3_2))
def qIw3_X12_put_68 (n : Nat) (I : Nat → Nat → Int32) (A : Nat → Nat → Int32) (J : Nat → Nat → Int64) (t : Bool × Bool) (x1 : Int32) : Nat → Nat → Int32 := (lp_X12_put_68_3 n I A J t x1 n I A 24).1
def qAw3_X12_put_68 (n : Nat) (I : Nat → Nat → Int32) (A : Nat → Nat → Int32) (J : Nat → Nat → Int64) (t : Bool × Bool) (x1 : Int32) : Nat → Nat → Int32 := (lp_X12_put_68_3 n I A J t x1 n I A 24).2.1
def q2w3_X12_put_68 (n : Nat) (I : Nat → Nat → Int32) (A : Nat → Nat → Int32) (J : Nat → Nat → Int64) (t : Bool × Bool) (x1 : Int32) : Int32 := (lp_X12_put_68_3 n I A J t x1 n I A 24).2.2
def pb_X12_put_68 (n : Nat) (I : Nat → Nat → Int32) (A : Nat → Nat → Int32) (J : Nat → Nat → Int64) (t : Bool × Bool) (x1 : Int32) : Prop := lb_X12_put_68_3 n I A J t x1 n I A 24
def pI_X12_put_68 (n : Nat) (I : Nat → Nat → Int32) (A : Nat → Nat → Int32) (J : Nat → Nat → Int64) (t : Bool × Bool) (x1 : Int32) : Nat → Nat → Int32 := (qIw3_X12_put_68 n I A J t x1)
def pA_X12_put_68 (n : Nat) (I : Nat → Nat → Int32) (A : Nat → Nat → Int32) (J : Nat → Nat → Int64) (t : Bool × Bool) (x1 : Int32) : Nat → Nat → Int32 := (qAw3_X12_put_68 n I A J t x1)
set_option maxRecDepth 100000 in
set_option maxHeartbeats 4000000 in
theorem lt_X12_put_68_3 (g : cw_G) (n : Nat) (I : Nat → Nat → Int32) (A : Nat → Nat → Int32) (J : Nat → Nat → Int64) (t : Bool × Bool) (x1 : Int32) {Q : Option Value → cw_H → Prop} : ∀ (f : Nat) (I3 : Nat → Nat → Int32) (A3 : Nat → Nat → Int32) (v3_2 : Int32) (w0 : Nat → Nat → Int32) (w1 : Nat → Nat → Int32) (w2 : Int32), lb_X12_put_68_3 n I A J t x1 f I3 A3 v3_2 → (lp_X12_put_68_3 n I A J t x1 f I3 A3 v3_2).1 = w0 → (lp_X12_put_68_3 n I A J t x1 f I3 A3 v3_2).2.1 = w1 → (lp_X12_put_68_3 n I A J t x1 f I3 A3 v3_2).2.2 = w2 → Ev g mX12_put 0 0 36 [some (.ref (cw_z g + 68)), some (.int x1), some (.int w2)] [] (hp g w0 w1 J t) Q → Ev g mX12_put 0 0 3 [some (.ref (cw_z g + 68)), some (.int x1), some (.int v3_2)] [] (hp g I3 A3 J t) Q := by
  intro f
  induction f with
  | zero =>
    intro I3 A3 v3_2 w0 w1 w2 hb
    exact hb.elim
  | succ f ih =>
    intro I3 A3 v3_2 w0 w1 w2 hb h0 h1 h2 hE
    rw [lb_X12_put_68_3] at hb
    rw [lp_X12_put_68_3] at h0 h1 h2
    refine ev_iload_n (pc := 3) dX12_put_3 rfl ?_
    have hF_4 := hb
    refine ev_if_lt (pc := 4) (tgt := 36) dX12_put_4 (by decide) (fun c_4 => ?_) (fun c_4 => ?_)
    · try simp only [if_pos c_4] at h0
      try simp only [if_pos c_4] at h1
      try simp only [if_pos c_4] at h2
      subst h0
      subst h1
      subst h2
      exact ev_loc hE cw_le0
    · have hb := hF_4 c_4
      try simp only [if_neg c_4] at h0
      try simp only [if_neg c_4] at h1
      try simp only [if_neg c_4] at h2
      refine ev_aload_n (pc := 7) dX12_put_7 rfl ?_
      refine tv_getr (pc := 8) (d := 69) dX12_put_8 fl_X12_13 (by decide) rfl rfl ?_
      refine ev_aload_n (pc := 11) dX12_put_11 rfl ?_
      refine tv_geti (pc := 12) dX12_put_12 fl_X12_177 (by decide) rfl rfl ?_
      refine ev_iload_n (pc := 15) dX12_put_15 rfl ?_
      refine ev_iload_n (pc := 16) dX12_put_16 rfl ?_
      refine ev_ishr (pc := 17) dX12_put_17 ?_
      refine ev_i2b (pc := 18) dX12_put_18 ?_
      refine tw_bast (pc := 19) (A2 := (qA19_X12_put_68 n I A J t x1 I3 A3 v3_2)) dX12_put_19 (by decide) rfl hb.1 rfl ?_
      replace hb := hb.2
      refine ev_aload_n (pc := 20) dX12_put_20 rfl ?_
      refine ev_dup (pc := 21) dX12_put_21 rfl ?_
      refine tv_geti (pc := 22) dX12_put_22 fl_X12_177 (by decide) rfl rfl ?_
      refine ev_iconst (pc := 25) (v := 1) dX12_put_25 (by decide) ?_
      refine ev_iadd (pc := 26) dX12_put_26 ?_
      refine tw_puti (pc := 27) (I2 := (qI27_X12_put_68 n I A J t x1 I3 A3 v3_2)) dX12_put_27 fp_X12_177 (by decide) rfl rfl rfl ?_
      refine ev_iinc_2 (pc := 30) (v := (q30_X12_put_68 n I A J t x1 I3 A3 v3_2)) dX12_put_30 (by decide) rfl rfl ?_
      refine ev_goto (pc := 33) (tgt := 3) dX12_put_33 (by decide) ?_
      exact ev_loc (ih (qI27_X12_put_68 n I A J t x1 I3 A3 v3_2) (qA19_X12_put_68 n I A J t x1 I3 A3 v3_2) (q30_X12_put_68 n I A J t x1 I3 A3 v3_2) w0 w1 w2 hb h0 h1 h2 hE) cw_le0

set_option maxRecDepth 100000 in
set_option maxHeartbeats 4000000 in
theorem cv_X12_put_68 (g : cw_G) (n : Nat) (I : Nat → Nat → Int32) (A : Nat → Nat → Int32) (J : Nat → Nat → Int64) (t : Bool × Bool) (x1 : Int32) (hb : pb_X12_put_68 n I A J t x1) : Cd g mX12_put [(.ref (cw_z g + 68)), (.int x1)] (hp g I A J t) none (hp g (pI_X12_put_68 n I A J t x1) (pA_X12_put_68 n I A J t x1) J t) := by
  unfold pb_X12_put_68 at hb
  unfold pI_X12_put_68 pA_X12_put_68
  refine Cd.of rfl (Nat.le_of_ble_eq_true rfl) (ev_gen (fun Q hQ => ?_))
  refine ev_bipush (pc := 0) (v := 24) dX12_put_0 (by decide) ?_
  refine ev_istore_2 (pc := 2) dX12_put_2 (by decide) rfl ?_
  refine lt_X12_put_68_3 g n I A J t x1 n I A 24 (qIw3_X12_put_68 n I A J t x1) (qAw3_X12_put_68 n I A J t x1) (q2w3_X12_put_68 n I A J t x1) hb rfl rfl rfl ?_
  exact ev_vret (pc := 36) dX12_put_36 rfl (by decide) (by decide) (hQ _ _ ⟨rfl, rfl⟩)

def pb_X12_feed_68 (n : Nat) (I : Nat → Nat → Int32) (A : Nat → Nat → Int32) (J : Nat → Nat → Int64) (t : Bool × Bool) (x1 : Int32) (x2 : Int32) (x3 : Int32) (x4 : Int32) (x5 : Int32) : Prop := (((I 68 2) + 20) ≤ 2000 → pb_X12_put_68 n I A J t x1 ∧ pb_X12_put_68 n (pI_X12_put_68 n I A J t x1) (pA_X12_put_68 n I A J t x1) J t x2 ∧ pb_X12_put_68 n (pI_X12_put_68 n (pI_X12_put_68 n I A J t x1) (pA_X12_put_68 n I A J t x1) J t x2) (pA_X12_put_68 n (pI_X12_put_68 n I A J t x1) (pA_X12_put_68 n I A J t x1) J t x2) J t x3 ∧ pb_X12_put_68 n (pI_X12_put_68 n (pI_X12_put_68 n (pI_X12_put_68 n I A J t x1) (pA_X12_put_68 n I A J t x1) J t x2) (pA_X12_put_68 n (pI_X12_put_68 n I A J t x1) (pA_X12_put_68 n I A J t x1) J t x2) J t x3) (pA_X12_put_68 n (pI_X12_put_68 n (pI_X12_put_68 n I A J t x1) (pA_X12_put_68 n I A J t x1) J t x2) (pA_X12_put_68 n (pI_X12_put_68 n I A J t x1) (pA_X12_put_68 n I A J t x1) J t x2) J t x3) J t x4 ∧ pb_X12_put_68 n (pI_X12_put_68 n (pI_X12_put_68 n (pI_X12_put_68 n (pI_X12_put_68 n I A J t x1) (pA_X12_put_68 n I A J t x1) J t x2) (pA_X12_put_68 n (pI_X12_put_68 n I A J t x1) (pA_X12_put_68 n I A J t x1) J t x2) J t x3) (pA_X12_put_68 n (pI_X12_put_68 n (pI_X12_put_68 n I A J t x1) (pA_X12_put_68 n I A J t x1) J t x2) (pA_X12_put_68 n (pI_X12_put_68 n I A J t x1) (pA_X12_put_68 n I A J t x1) J t x2) J t x3) J t x4) (pA_X12_put_68 n (pI_X12_put_68 n (pI_X12_put_68 n (pI_X12_put_68 n I A J t x1) (pA_X12_put_68 n I A J t x1) J t x2) (pA_X12_put_68 n (pI_X12_put_68 n I A J t x1) (pA_X12_put_68 n I A J t x1) J t x2) J t x3) (pA_X12_put_68 n (pI_X12_put_68 n (pI_X12_put_68 n I A J t x1) (pA_X12_put_68 n I A J t x1) J t x2) (pA_X12_put_68 n (pI_X12_put_68 n I A J t x1) (pA_X12_put_68 n I A J t x1) J t x2) J t x3) J t x4) J t x5)
def px_X12_feed_68 (n : Nat) (I : Nat → Nat → Int32) (A : Nat → Nat → Int32) (J : Nat → Nat → Int64) (t : Bool × Bool) (x1 : Int32) (x2 : Int32) (x3 : Int32) (x4 : Int32) (x5 : Int32) : Int32 := (if ((I 68 2) + 20) ≤ 2000 then ((pI_X12_put_68 n (pI_X12_put_68 n (pI_X12_put_68 n (pI_X12_put_68 n (pI_X12_put_68 n I A J t x1) (pA_X12_put_68 n I A J t x1) J t x2) (pA_X12_put_68 n (pI_X12_put_68 n I A J t x1) (pA_X12_put_68 n I A J t x1) J t x2) J t x3) (pA_X12_put_68 n (pI_X12_put_68 n (pI_X12_put_68 n I A J t x1) (pA_X12_put_68 n I A J t x1) J t x2) (pA_X12_put_68 n (pI_X12_put_68 n I A J t x1) (pA_X12_put_68 n I A J t x1) J t x2) J t x3) J t x4) (pA_X12_put_68 n (pI_X12_put_68 n (pI_X12_put_68 n (pI_X12_put_68 n I A J t x1) (pA_X12_put_68 n I A J t x1) J t x2) (pA_X12_put_68 n (pI_X12_put_68 n I A J t x1) (pA_X12_put_68 n I A J t x1) J t x2) J t x3) (pA_X12_put_68 n (pI_X12_put_68 n (pI_X12_put_68 n I A J t x1) (pA_X12_put_68 n I A J t x1) J t x2) (pA_X12_put_68 n (pI_X12_put_68 n I A J t x1) (pA_X12_put_68 n I A J t x1) J t x2) J t x3) J t x4) J t x5) 68 2) else (-1))
def pI_X12_feed_68 (n : Nat) (I : Nat → Nat → Int32) (A : Nat → Nat → Int32) (J : Nat → Nat → Int64) (t : Bool × Bool) (x1 : Int32) (x2 : Int32) (x3 : Int32) (x4 : Int32) (x5 : Int32) : Nat → Nat → Int32 := (if ((I 68 2) + 20) ≤ 2000 then (pI_X12_put_68 n (pI_X12_put_68 n (pI_X12_put_68 n (pI_X12_put_68 n (pI_X12_put_68 n I A J t x1) (pA_X12_put_68 n I A J t x1) J t x2) (pA_X12_put_68 n (pI_X12_put_68 n I A J t x1) (pA_X12_put_68 n I A J t x1) J t x2) J t x3) (pA_X12_put_68 n (pI_X12_put_68 n (pI_X12_put_68 n I A J t x1) (pA_X12_put_68 n I A J t x1) J t x2) (pA_X12_put_68 n (pI_X12_put_68 n I A J t x1) (pA_X12_put_68 n I A J t x1) J t x2) J t x3) J t x4) (pA_X12_put_68 n (pI_X12_put_68 n (pI_X12_put_68 n (pI_X12_put_68 n I A J t x1) (pA_X12_put_68 n I A J t x1) J t x2) (pA_X12_put_68 n (pI_X12_put_68 n I A J t x1) (pA_X12_put_68 n I A J t x1) J t x2) J t x3) (pA_X12_put_68 n (pI_X12_put_68 n (pI_X12_put_68 n I A J t x1) (pA_X12_put_68 n I A J t x1) J t x2) (pA_X12_put_68 n (pI_X12_put_68 n I A J t x1) (pA_X12_put_68 n I A J t x1) J t x2) J t x3) J t x4) J t x5) else I)
def pA_X12_feed_68 (n : Nat) (I : Nat → Nat → Int32) (A : Nat → Nat → Int32) (J : Nat → Nat → Int64) (t : Bool × Bool) (x1 : Int32) (x2 : Int32) (x3 : Int32) (x4 : Int32) (x5 : Int32) : Nat → Nat → Int32 := (if ((I 68 2) + 20) ≤ 2000 then (pA_X12_put_68 n (pI_X12_put_68 n (pI_X12_put_68 n (pI_X12_put_68 n (pI_X12_put_68 n I A J t x1) (pA_X12_put_68 n I A J t x1) J t x2) (pA_X12_put_68 n (pI_X12_put_68 n I A J t x1) (pA_X12_put_68 n I A J t x1) J t x2) J t x3) (pA_X12_put_68 n (pI_X12_put_68 n (pI_X12_put_68 n I A J t x1) (pA_X12_put_68 n I A J t x1) J t x2) (pA_X12_put_68 n (pI_X12_put_68 n I A J t x1) (pA_X12_put_68 n I A J t x1) J t x2) J t x3) J t x4) (pA_X12_put_68 n (pI_X12_put_68 n (pI_X12_put_68 n (pI_X12_put_68 n I A J t x1) (pA_X12_put_68 n I A J t x1) J t x2) (pA_X12_put_68 n (pI_X12_put_68 n I A J t x1) (pA_X12_put_68 n I A J t x1) J t x2) J t x3) (pA_X12_put_68 n (pI_X12_put_68 n (pI_X12_put_68 n I A J t x1) (pA_X12_put_68 n I A J t x1) J t x2) (pA_X12_put_68 n (pI_X12_put_68 n I A J t x1) (pA_X12_put_68 n I A J t x1) J t x2) J t x3) J t x4) J t x5) else A)
set_option maxRecDepth 100000 in
set_option maxHeartbeats 4000000 in
theorem cv_X12_feed_68 (g : cw_G) (n : Nat) (I : Nat → Nat → Int32) (A : Nat → Nat → Int32) (J : Nat → Nat → Int64) (t : Bool × Bool) (x1 : Int32) (x2 : Int32) (x3 : Int32) (x4 : Int32) (x5 : Int32) (hb : pb_X12_feed_68 n I A J t x1 x2 x3 x4 x5) : Cd g mX12_feed [(.ref (cw_z g + 68)), (.int x1), (.int x2), (.int x3), (.int x4), (.int x5)] (hp g I A J t) (some (.int (px_X12_feed_68 n I A J t x1 x2 x3 x4 x5))) (hp g (pI_X12_feed_68 n I A J t x1 x2 x3 x4 x5) (pA_X12_feed_68 n I A J t x1 x2 x3 x4 x5) J t) := by
  unfold pb_X12_feed_68 at hb
  unfold px_X12_feed_68 pI_X12_feed_68 pA_X12_feed_68
  refine Cd.of rfl (Nat.le_of_ble_eq_true rfl) (ev_gen (fun Q hQ => ?_))
  refine ev_aload_n (pc := 0) dX12_feed_0 rfl ?_
  refine tv_geti (pc := 1) dX12_feed_1 fl_X12_177 (by decide) rfl rfl ?_
  refine ev_bipush (pc := 4) (v := 20) dX12_feed_4 (by decide) ?_
  refine ev_iadd (pc := 6) dX12_feed_6 ?_
  refine ev_sipush (pc := 7) (v := 2000) dX12_feed_7 (by decide) ?_
  have hT_10 := hb
  refine ev_icmp_le (pc := 10) (tgt := 15) dX12_feed_10 (by decide) (fun c_10 => ?_) (fun c_10 => ?_)
  · have hb := hT_10 c_10
    try simp only [if_pos c_10] at hQ
    refine ev_aload_n (pc := 15) dX12_feed_15 rfl ?_
    refine ev_iload_n (pc := 16) dX12_feed_16 rfl ?_
    refine ev_Vv (pc := 17) dX12_feed_17 lk_X12_180 cd_X12_put ar_X12_put ⟨by decide, rfl, rfl⟩ (cv_X12_put_68 g n I A J t x1 hb.1) (show 68 < 120 by decide) rfl rfl rfl rfl (Nat.le_of_ble_eq_true rfl) ⟨by decide, by decide⟩ ?_
    replace hb := hb.2
    refine ev_aload_n (pc := 20) dX12_feed_20 rfl ?_
    refine ev_iload_n (pc := 21) dX12_feed_21 rfl ?_
    refine ev_Vv (pc := 22) dX12_feed_22 lk_X12_180 cd_X12_put ar_X12_put ⟨by decide, rfl, rfl⟩ (cv_X12_put_68 g n (pI_X12_put_68 n I A J t x1) (pA_X12_put_68 n I A J t x1) J t x2 hb.1) (show 68 < 120 by decide) rfl rfl rfl rfl (Nat.le_of_ble_eq_true rfl) ⟨by decide, by decide⟩ ?_
    replace hb := hb.2
    refine ev_aload_n (pc := 25) dX12_feed_25 rfl ?_
    refine ev_iload_n (pc := 26) dX12_feed_26 rfl ?_
    refine ev_Vv (pc := 27) dX12_feed_27 lk_X12_180 cd_X12_put ar_X12_put ⟨by decide, rfl, rfl⟩ (cv_X12_put_68 g n (pI_X12_put_68 n (pI_X12_put_68 n I A J t x1) (pA_X12_put_68 n I A J t x1) J t x2) (pA_X12_put_68 n (pI_X12_put_68 n I A J t x1) (pA_X12_put_68 n I A J t x1) J t x2) J t x3 hb.1) (show 68 < 120 by decide) rfl rfl rfl rfl (Nat.le_of_ble_eq_true rfl) ⟨by decide, by decide⟩ ?_
    replace hb := hb.2
    refine ev_aload_n (pc := 30) dX12_feed_30 rfl ?_
    refine ev_iload (pc := 31) dX12_feed_31 rfl ?_
    refine ev_Vv (pc := 33) dX12_feed_33 lk_X12_180 cd_X12_put ar_X12_put ⟨by decide, rfl, rfl⟩ (cv_X12_put_68 g n (pI_X12_put_68 n (pI_X12_put_68 n (pI_X12_put_68 n I A J t x1) (pA_X12_put_68 n I A J t x1) J t x2) (pA_X12_put_68 n (pI_X12_put_68 n I A J t x1) (pA_X12_put_68 n I A J t x1) J t x2) J t x3) (pA_X12_put_68 n (pI_X12_put_68 n (pI_X12_put_68 n I A J t x1) (pA_X12_put_68 n I A J t x1) J t x2) (pA_X12_put_68 n (pI_X12_put_68 n I A J t x1) (pA_X12_put_68 n I A J t x1) J t x2) J t x3) J t x4 hb.1) (show 68 < 120 by decide) rfl rfl rfl rfl (Nat.le_of_ble_eq_true rfl) ⟨by decide, by decide⟩ ?_
    replace hb := hb.2
    refine ev_aload_n (pc := 36) dX12_feed_36 rfl ?_
    refine ev_iload (pc := 37) dX12_feed_37 rfl ?_
    refine ev_Vv (pc := 39) dX12_feed_39 lk_X12_180 cd_X12_put ar_X12_put ⟨by decide, rfl, rfl⟩ (cv_X12_put_68 g n (pI_X12_put_68 n (pI_X12_put_68 n (pI_X12_put_68 n (pI_X12_put_68 n I A J t x1) (pA_X12_put_68 n I A J t x1) J t x2) (pA_X12_put_68 n (pI_X12_put_68 n I A J t x1) (pA_X12_put_68 n I A J t x1) J t x2) J t x3) (pA_X12_put_68 n (pI_X12_put_68 n (pI_X12_put_68 n I A J t x1) (pA_X12_put_68 n I A J t x1) J t x2) (pA_X12_put_68 n (pI_X12_put_68 n I A J t x1) (pA_X12_put_68 n I A J t x1) J t x2) J t x3) J t x4) (pA_X12_put_68 n (pI_X12_put_68 n (pI_X12_put_68 n (pI_X12_put_68 n I A J t x1) (pA_X12_put_68 n I A J t x1) J t x2) (pA_X12_put_68 n (pI_X12_put_68 n I A J t x1) (pA_X12_put_68 n I A J t x1) J t x2) J t x3) (pA_X12_put_68 n (pI_X12_put_68 n (pI_X12_put_68 n I A J t x1) (pA_X12_put_68 n I A J t x1) J t x2) (pA_X12_put_68 n (pI_X12_put_68 n I A J t x1) (pA_X12_put_68 n I A J t x1) J t x2) J t x3) J t x4) J t x5 hb) (show 68 < 120 by decide) rfl rfl rfl rfl (Nat.le_of_ble_eq_true rfl) ⟨by decide, by decide⟩ ?_
    refine ev_aload_n (pc := 42) dX12_feed_42 rfl ?_
    refine tv_geti (pc := 43) dX12_feed_43 fl_X12_177 (by decide) rfl rfl ?_
    exact ev_iret (pc := 46) dX12_feed_46 rfl (by decide) (by decide) (hQ _ _ ⟨rfl, rfl⟩)
  · try simp only [if_neg c_10] at hQ
    refine ev_iconst (pc := 13) (v := (-1)) dX12_feed_13 (by decide) ?_
    exact ev_iret (pc := 14) dX12_feed_14 rfl (by decide) (by decide) (hQ _ _ ⟨rfl, rfl⟩)

def qI21_X12_back_68 (n : Nat) (I : Nat → Nat → Int32) (A : Nat → Nat → Int32) (J : Nat → Nat → Int64) (t : Bool × Bool) (x1 : Int32) : Nat → Nat → Int32 := cw_u I 68 2 ((I 68 2) - x1)
def px_X12_back_68 (n : Nat) (I : Nat → Nat → Int32) (A : Nat → Nat → Int32) (J : Nat → Nat → Int64) (t : Bool × Bool) (x1 : Int32) : Int32 := (if x1 < 0 then (-1) else (if x1 ≤ (I 68 2) then ((qI21_X12_back_68 n I A J t x1) 68 2) else (-1)))
def pI_X12_back_68 (n : Nat) (I : Nat → Nat → Int32) (A : Nat → Nat → Int32) (J : Nat → Nat → Int64) (t : Bool × Bool) (x1 : Int32) : Nat → Nat → Int32 := (if x1 < 0 then I else (if x1 ≤ (I 68 2) then (qI21_X12_back_68 n I A J t x1) else I))
set_option maxRecDepth 100000 in
set_option maxHeartbeats 4000000 in
theorem cv_X12_back_68 (g : cw_G) (n : Nat) (I : Nat → Nat → Int32) (A : Nat → Nat → Int32) (J : Nat → Nat → Int64) (t : Bool × Bool) (x1 : Int32) : Cd g mX12_back [(.ref (cw_z g + 68)), (.int x1)] (hp g I A J t) (some (.int (px_X12_back_68 n I A J t x1))) (hp g (pI_X12_back_68 n I A J t x1) A J t) := by
  unfold px_X12_back_68 pI_X12_back_68
  refine Cd.of rfl (Nat.le_of_ble_eq_true rfl) (ev_gen (fun Q hQ => ?_))
  refine ev_iload_n (pc := 0) dX12_back_0 rfl ?_
  refine ev_if_lt (pc := 1) (tgt := 12) dX12_back_1 (by decide) (fun c_1 => ?_) (fun c_1 => ?_)
  · try simp only [if_pos c_1] at hQ
    refine ev_iconst (pc := 12) (v := (-1)) dX12_back_12 (by decide) ?_
    exact ev_iret (pc := 13) dX12_back_13 rfl (by decide) (by decide) (hQ _ _ ⟨rfl, rfl⟩)
  · try simp only [if_neg c_1] at hQ
    refine ev_iload_n (pc := 4) dX12_back_4 rfl ?_
    refine ev_aload_n (pc := 5) dX12_back_5 rfl ?_
    refine tv_geti (pc := 6) dX12_back_6 fl_X12_177 (by decide) rfl rfl ?_
    refine ev_icmp_le (pc := 9) (tgt := 14) dX12_back_9 (by decide) (fun c_9 => ?_) (fun c_9 => ?_)
    · try simp only [if_pos c_9] at hQ
      refine ev_aload_n (pc := 14) dX12_back_14 rfl ?_
      refine ev_dup (pc := 15) dX12_back_15 rfl ?_
      refine tv_geti (pc := 16) dX12_back_16 fl_X12_177 (by decide) rfl rfl ?_
      refine ev_iload_n (pc := 19) dX12_back_19 rfl ?_
      refine ev_isub (pc := 20) dX12_back_20 ?_
      refine tw_puti (pc := 21) (I2 := (qI21_X12_back_68 n I A J t x1)) dX12_back_21 fp_X12_177 (by decide) rfl rfl rfl ?_
      refine ev_aload_n (pc := 24) dX12_back_24 rfl ?_
      refine tv_geti (pc := 25) dX12_back_25 fl_X12_177 (by decide) rfl rfl ?_
      exact ev_iret (pc := 28) dX12_back_28 rfl (by decide) (by decide) (hQ _ _ ⟨rfl, rfl⟩)
    · try simp only [if_neg c_9] at hQ
      refine ev_iconst (pc := 12) (v := (-1)) dX12_back_12 (by decide) ?_
      exact ev_iret (pc := 13) dX12_back_13 rfl (by decide) (by decide) (hQ _ _ ⟨rfl, rfl⟩)

def qs0m5_X12_at_68 (n : Nat) (I : Nat → Nat → Int32) (A : Nat → Nat → Int32) (J : Nat → Nat → Int64) (t : Bool × Bool) (x1 : Int32) : Int32 := if (I 68 4) ≤ x1 then 0 else ((A 70 (x1).toNatClampNeg) &&& 255)
def pb_X12_at_68 (n : Nat) (I : Nat → Nat → Int32) (A : Nat → Nat → Int32) (J : Nat → Nat → Int64) (t : Bool × Bool) (x1 : Int32) : Prop := (¬ (I 68 4) ≤ x1 → vp_in x1 2000)
def px_X12_at_68 (n : Nat) (I : Nat → Nat → Int32) (A : Nat → Nat → Int32) (J : Nat → Nat → Int64) (t : Bool × Bool) (x1 : Int32) : Int32 := (qs0m5_X12_at_68 n I A J t x1)
set_option maxRecDepth 100000 in
set_option maxHeartbeats 4000000 in
theorem cv_X12_at_68 (g : cw_G) (n : Nat) (I : Nat → Nat → Int32) (A : Nat → Nat → Int32) (J : Nat → Nat → Int64) (t : Bool × Bool) (x1 : Int32) (hb : pb_X12_at_68 n I A J t x1) : Cd g mX12_at [(.ref (cw_z g + 68)), (.int x1)] (hp g I A J t) (some (.int (px_X12_at_68 n I A J t x1))) (hp g I A J t) := by
  unfold pb_X12_at_68 at hb
  unfold px_X12_at_68
  refine Cd.of rfl (Nat.le_of_ble_eq_true rfl) (ev_gen (fun Q hQ => ?_))
  refine ev_iload_n (pc := 0) dX12_at_0 rfl ?_
  refine ev_aload_n (pc := 1) dX12_at_1 rfl ?_
  refine tv_geti (pc := 2) dX12_at_2 fl_X12_184 (by decide) rfl rfl ?_
  have hF_5 := hb
  refine ev_cut (pj := 22) (Lj := [some (.ref (cw_z g + 68)), some (.int x1)]) (stj := [(.int (qs0m5_X12_at_68 n I A J t x1))]) (σj := hp g I A J t) ?_ (fun hJ_5 => ?_)
  rotate_left
  · refine ev_icmp_ge (pc := 5) (tgt := 21) dX12_at_5 (by decide) (fun c_5 => ?_) (fun c_5 => ?_)
    · refine ev_iconst (pc := 21) (v := 0) dX12_at_21 (by decide) ?_
      simp only [qs0m5_X12_at_68, if_pos c_5] at hJ_5
      exact ev_loc hJ_5 cw_le0
    · have hb := hF_5 c_5
      refine ev_aload_n (pc := 8) dX12_at_8 rfl ?_
      refine tv_getr (pc := 9) (d := 70) dX12_at_9 fl_X12_17 (by decide) rfl rfl ?_
      refine ev_iload_n (pc := 12) dX12_at_12 rfl ?_
      refine ev_bald (pc := 13) dX12_at_13 (by decide) rfl hb ?_
      refine ev_sipush (pc := 14) (v := 255) dX12_at_14 (by decide) ?_
      refine ev_iand (pc := 17) dX12_at_17 ?_
      refine ev_goto (pc := 18) (tgt := 22) dX12_at_18 (by decide) ?_
      simp only [qs0m5_X12_at_68, if_neg c_5] at hJ_5
      exact ev_loc hJ_5 cw_le0
  exact ev_iret (pc := 22) dX12_at_22 rfl (by decide) (by decide) (hQ _ _ ⟨rfl, rfl⟩)

def qA9_X12_token_68 (n : Nat) (I : Nat → Nat → Int32) (A : Nat → Nat → Int32) (J : Nat → Nat → Int64) (t : Bool × Bool) (x1 : Int32) (x2 : Int32) (x3 : Int32) (x4 : Int64) : Nat → Nat → Int32 := cw_u A 71 ((I 68 10)).toNatClampNeg x1
def qA19_X12_token_68 (n : Nat) (I : Nat → Nat → Int32) (A : Nat → Nat → Int32) (J : Nat → Nat → Int64) (t : Bool × Bool) (x1 : Int32) (x2 : Int32) (x3 : Int32) (x4 : Int64) : Nat → Nat → Int32 := cw_u (qA9_X12_token_68 n I A J t x1 x2 x3 x4) 72 ((I 68 10)).toNatClampNeg x2
def qA29_X12_token_68 (n : Nat) (I : Nat → Nat → Int32) (A : Nat → Nat → Int32) (J : Nat → Nat → Int64) (t : Bool × Bool) (x1 : Int32) (x2 : Int32) (x3 : Int32) (x4 : Int64) : Nat → Nat → Int32 := cw_u (qA19_X12_token_68 n I A J t x1 x2 x3 x4) 73 ((I 68 10)).toNatClampNeg x3
def qJ40_X12_token_68 (n : Nat) (I : Nat → Nat → Int32) (A : Nat → Nat → Int32) (J : Nat → Nat → Int64) (t : Bool × Bool) (x1 : Int32) (x2 : Int32) (x3 : Int32) (x4 : Int64) : Nat → Nat → Int64 := cw_u J 74 ((I 68 10)).toNatClampNeg x4
def qI48_X12_token_68 (n : Nat) (I : Nat → Nat → Int32) (A : Nat → Nat → Int32) (J : Nat → Nat → Int64) (t : Bool × Bool) (x1 : Int32) (x2 : Int32) (x3 : Int32) (x4 : Int64) : Nat → Nat → Int32 := cw_u I 68 10 ((I 68 10) + 1)
def pb_X12_token_68 (n : Nat) (I : Nat → Nat → Int32) (A : Nat → Nat → Int32) (J : Nat → Nat → Int64) (t : Bool × Bool) (x1 : Int32) (x2 : Int32) (x3 : Int32) (x4 : Int64) : Prop := vp_in (I 68 10) 403 ∧ vp_in (I 68 10) 403 ∧ vp_in (I 68 10) 403 ∧ vp_in (I 68 10) 403
def pI_X12_token_68 (n : Nat) (I : Nat → Nat → Int32) (A : Nat → Nat → Int32) (J : Nat → Nat → Int64) (t : Bool × Bool) (x1 : Int32) (x2 : Int32) (x3 : Int32) (x4 : Int64) : Nat → Nat → Int32 := (qI48_X12_token_68 n I A J t x1 x2 x3 x4)
def pA_X12_token_68 (n : Nat) (I : Nat → Nat → Int32) (A : Nat → Nat → Int32) (J : Nat → Nat → Int64) (t : Bool × Bool) (x1 : Int32) (x2 : Int32) (x3 : Int32) (x4 : Int64) : Nat → Nat → Int32 := (qA29_X12_token_68 n I A J t x1 x2 x3 x4)
def pJ_X12_token_68 (n : Nat) (I : Nat → Nat → Int32) (A : Nat → Nat → Int32) (J : Nat → Nat → Int64) (t : Bool × Bool) (x1 : Int32) (x2 : Int32) (x3 : Int32) (x4 : Int64) : Nat → Nat → Int64 := (qJ40_X12_token_68 n I A J t x1 x2 x3 x4)
set_option maxRecDepth 100000 in
set_option maxHeartbeats 4000000 in
theorem cv_X12_token_68 (g : cw_G) (n : Nat) (I : Nat → Nat → Int32) (A : Nat → Nat → Int32) (J : Nat → Nat → Int64) (t : Bool × Bool) (x1 : Int32) (x2 : Int32) (x3 : Int32) (x4 : Int64) (hb : pb_X12_token_68 n I A J t x1 x2 x3 x4) : Cd g mX12_token [(.ref (cw_z g + 68)), (.int x1), (.int x2), (.int x3), (.long x4)] (hp g I A J t) none (hp g (pI_X12_token_68 n I A J t x1 x2 x3 x4) (pA_X12_token_68 n I A J t x1 x2 x3 x4) (pJ_X12_token_68 n I A J t x1 x2 x3 x4) t) := by
  unfold pb_X12_token_68 at hb
  unfold pI_X12_token_68 pA_X12_token_68 pJ_X12_token_68
  refine Cd.of rfl (Nat.le_of_ble_eq_true rfl) (ev_gen (fun Q hQ => ?_))
  refine ev_aload_n (pc := 0) dX12_token_0 rfl ?_
  refine tv_getr (pc := 1) (d := 71) dX12_token_1 fl_X12_20 (by decide) rfl rfl ?_
  refine ev_aload_n (pc := 4) dX12_token_4 rfl ?_
  refine tv_geti (pc := 5) dX12_token_5 fl_X12_193 (by decide) rfl rfl ?_
  refine ev_iload_n (pc := 8) dX12_token_8 rfl ?_
  refine tw_iast (pc := 9) (A2 := (qA9_X12_token_68 n I A J t x1 x2 x3 x4)) dX12_token_9 (by decide) rfl hb.1 rfl ?_
  replace hb := hb.2
  refine ev_aload_n (pc := 10) dX12_token_10 rfl ?_
  refine tv_getr (pc := 11) (d := 72) dX12_token_11 fl_X12_24 (by decide) rfl rfl ?_
  refine ev_aload_n (pc := 14) dX12_token_14 rfl ?_
  refine tv_geti (pc := 15) dX12_token_15 fl_X12_193 (by decide) rfl rfl ?_
  refine ev_iload_n (pc := 18) dX12_token_18 rfl ?_
  refine tw_iast (pc := 19) (A2 := (qA19_X12_token_68 n I A J t x1 x2 x3 x4)) dX12_token_19 (by decide) rfl hb.1 rfl ?_
  replace hb := hb.2
  refine ev_aload_n (pc := 20) dX12_token_20 rfl ?_
  refine tv_getr (pc := 21) (d := 73) dX12_token_21 fl_X12_27 (by decide) rfl rfl ?_
  refine ev_aload_n (pc := 24) dX12_token_24 rfl ?_
  refine tv_geti (pc := 25) dX12_token_25 fl_X12_193 (by decide) rfl rfl ?_
  refine ev_iload_n (pc := 28) dX12_token_28 rfl ?_
  refine tw_iast (pc := 29) (A2 := (qA29_X12_token_68 n I A J t x1 x2 x3 x4)) dX12_token_29 (by decide) rfl hb.1 rfl ?_
  replace hb := hb.2
  refine ev_aload_n (pc := 30) dX12_token_30 rfl ?_
  refine tv_getr (pc := 31) (d := 74) dX12_token_31 fl_X12_30 (by decide) rfl rfl ?_
  refine ev_aload_n (pc := 34) dX12_token_34 rfl ?_
  refine tv_geti (pc := 35) dX12_token_35 fl_X12_193 (by decide) rfl rfl ?_
  refine ev_lload (pc := 38) dX12_token_38 rfl ?_
  refine tw_last (pc := 40) (J2 := (qJ40_X12_token_68 n I A J t x1 x2 x3 x4)) dX12_token_40 (by decide) rfl hb rfl ?_
  refine ev_aload_n (pc := 41) dX12_token_41 rfl ?_
  refine ev_dup (pc := 42) dX12_token_42 rfl ?_
  refine tv_geti (pc := 43) dX12_token_43 fl_X12_193 (by decide) rfl rfl ?_
  refine ev_iconst (pc := 46) (v := 1) dX12_token_46 (by decide) ?_
  refine ev_iadd (pc := 47) dX12_token_47 ?_
  refine tw_puti (pc := 48) (I2 := (qI48_X12_token_68 n I A J t x1 x2 x3 x4)) dX12_token_48 fp_X12_193 (by decide) rfl rfl rfl ?_
  exact ev_vret (pc := 51) dX12_token_51 rfl (by decide) (by decide) (hQ _ _ ⟨rfl, rfl⟩)

def qs0m35_X12_sign_68 (n : Nat) (I : Nat → Nat → Int32) (A : Nat → Nat → Int32) (J : Nat → Nat → Int64) (t : Bool × Bool) (x1 : Int32) (x2 : Int32) (x3 : Int32) : Int32 := if x2 = 60 then 14 else 0
def qs0m24_X12_sign_68 (n : Nat) (I : Nat → Nat → Int32) (A : Nat → Nat → Int32) (J : Nat → Nat → Int64) (t : Bool × Bool) (x1 : Int32) (x2 : Int32) (x3 : Int32) : Int32 := if x2 = 33 then 12 else (qs0m35_X12_sign_68 n I A J t x1 x2 x3)
def qs0m13_X12_sign_68 (n : Nat) (I : Nat → Nat → Int32) (A : Nat → Nat → Int32) (J : Nat → Nat → Int64) (t : Bool × Bool) (x1 : Int32) (x2 : Int32) (x3 : Int32) : Int32 := if x2 = 61 then 11 else (qs0m24_X12_sign_68 n I A J t x1 x2 x3)
def qs0m3_X12_sign_68 (n : Nat) (I : Nat → Nat → Int32) (A : Nat → Nat → Int32) (J : Nat → Nat → Int64) (t : Bool × Bool) (x1 : Int32) (x2 : Int32) (x3 : Int32) : Int32 := if x3 = 61 then (qs0m13_X12_sign_68 n I A J t x1 x2 x3) else 0
def ql5m141_X12_sign_68 (n : Nat) (I : Nat → Nat → Int32) (A : Nat → Nat → Int32) (J : Nat → Nat → Int64) (t : Bool × Bool) (x1 : Int32) (x2 : Int32) (x3 : Int32) : Int32 := if x2 = 60 then 13 else 3
def ql5m128_X12_sign_68 (n : Nat) (I : Nat → Nat → Int32) (A : Nat → Nat → Int32) (J : Nat → Nat → Int64) (t : Bool × Bool) (x1 : Int32) (x2 : Int32) (x3 : Int32) : Int32 := if x2 = 42 then 10 else (ql5m141_X12_sign_68 n I A J t x1 x2 x3)
def ql5m115_X12_sign_68 (n : Nat) (I : Nat → Nat → Int32) (A : Nat → Nat → Int32) (J : Nat → Nat → Int64) (t : Bool × Bool) (x1 : Int32) (x2 : Int32) (x3 : Int32) : Int32 := if x2 = 45 then 9 else (ql5m128_X12_sign_68 n I A J t x1 x2 x3)
def ql5m102_X12_sign_68 (n : Nat) (I : Nat → Nat → Int32) (A : Nat → Nat → Int32) (J : Nat → Nat → Int64) (t : Bool × Bool) (x1 : Int32) (x2 : Int32) (x3 : Int32) : Int32 := if x2 = 43 then 8 else (ql5m115_X12_sign_68 n I A J t x1 x2 x3)
def ql5m89_X12_sign_68 (n : Nat) (I : Nat → Nat → Int32) (A : Nat → Nat → Int32) (J : Nat → Nat → Int64) (t : Bool × Bool) (x1 : Int32) (x2 : Int32) (x3 : Int32) : Int32 := if x2 = 41 then 7 else (ql5m102_X12_sign_68 n I A J t x1 x2 x3)
def ql5m76_X12_sign_68 (n : Nat) (I : Nat → Nat → Int32) (A : Nat → Nat → Int32) (J : Nat → Nat → Int64) (t : Bool × Bool) (x1 : Int32) (x2 : Int32) (x3 : Int32) : Int32 := if x2 = 40 then 6 else (ql5m89_X12_sign_68 n I A J t x1 x2 x3)
def ql5m64_X12_sign_68 (n : Nat) (I : Nat → Nat → Int32) (A : Nat → Nat → Int32) (J : Nat → Nat → Int64) (t : Bool × Bool) (x1 : Int32) (x2 : Int32) (x3 : Int32) : Int32 := if x2 = 59 then 4 else (ql5m76_X12_sign_68 n I A J t x1 x2 x3)
def ql5m51_X12_sign_68 (n : Nat) (I : Nat → Nat → Int32) (A : Nat → Nat → Int32) (J : Nat → Nat → Int64) (t : Bool × Bool) (x1 : Int32) (x2 : Int32) (x3 : Int32) : Int32 := if (qs0m3_X12_sign_68 n I A J t x1 x2 x3) ≤ 0 then (ql5m64_X12_sign_68 n I A J t x1 x2 x3) else (qs0m3_X12_sign_68 n I A J t x1 x2 x3)
def qs0m159_X12_sign_68 (n : Nat) (I : Nat → Nat → Int32) (A : Nat → Nat → Int32) (J : Nat → Nat → Int64) (t : Bool × Bool) (x1 : Int32) (x2 : Int32) (x3 : Int32) : Int32 := if (qs0m3_X12_sign_68 n I A J t x1 x2 x3) ≤ 0 then 1 else 2
def pb_X12_sign_68 (n : Nat) (I : Nat → Nat → Int32) (A : Nat → Nat → Int32) (J : Nat → Nat → Int64) (t : Bool × Bool) (x1 : Int32) (x2 : Int32) (x3 : Int32) : Prop := pb_X12_token_68 n I A J t (ql5m51_X12_sign_68 n I A J t x1 x2 x3) x1 0 0
def px_X12_sign_68 (n : Nat) (I : Nat → Nat → Int32) (A : Nat → Nat → Int32) (J : Nat → Nat → Int64) (t : Bool × Bool) (x1 : Int32) (x2 : Int32) (x3 : Int32) : Int32 := (qs0m159_X12_sign_68 n I A J t x1 x2 x3)
def pI_X12_sign_68 (n : Nat) (I : Nat → Nat → Int32) (A : Nat → Nat → Int32) (J : Nat → Nat → Int64) (t : Bool × Bool) (x1 : Int32) (x2 : Int32) (x3 : Int32) : Nat → Nat → Int32 := (pI_X12_token_68 n I A J t (ql5m51_X12_sign_68 n I A J t x1 x2 x3) x1 0 0)
def pA_X12_sign_68 (n : Nat) (I : Nat → Nat → Int32) (A : Nat → Nat → Int32) (J : Nat → Nat → Int64) (t : Bool × Bool) (x1 : Int32) (x2 : Int32) (x3 : Int32) : Nat → Nat → Int32 := (pA_X12_token_68 n I A J t (ql5m51_X12_sign_68 n I A J t x1 x2 x3) x1 0 0)
def pJ_X12_sign_68 (n : Nat) (I : Nat → Nat → Int32) (A : Nat → Nat → Int32) (J : Nat → Nat → Int64) (t : Bool × Bool) (x1 : Int32) (x2 : Int32) (x3 : Int32) : Nat → Nat → Int64 := (pJ_X12_token_68 n I A J t (ql5m51_X12_sign_68 n I A J t x1 x2 x3) x1 0 0)
set_option maxRecDepth 100000 in
set_option maxHeartbeats 4000000 in
theorem cv_X12_sign_68 (g : cw_G) (n : Nat) (I : Nat → Nat → Int32) (A : Nat → Nat → Int32) (J : Nat → Nat → Int64) (t : Bool × Bool) (x1 : Int32) (x2 : Int32) (x3 : Int32) (hb : pb_X12_sign_68 n I A J t x1 x2 x3) : Cd g mX12_sign [(.ref (cw_z g + 68)), (.int x1), (.int x2), (.int x3)] (hp g I A J t) (some (.int (px_X12_sign_68 n I A J t x1 x2 x3))) (hp g (pI_X12_sign_68 n I A J t x1 x2 x3) (pA_X12_sign_68 n I A J t x1 x2 x3) (pJ_X12_sign_68 n I A J t x1 x2 x3) t) := by
  unfold pb_X12_sign_68 at hb
  unfold px_X12_sign_68 pI_X12_sign_68 pA_X12_sign_68 pJ_X12_sign_68
  refine Cd.of rfl (Nat.le_of_ble_eq_true rfl) (ev_gen (fun Q hQ => ?_))
  refine ev_iload_n (pc := 0) dX12_sign_0 rfl ?_
  refine ev_bipush (pc := 1) (v := 61) dX12_sign_1 (by decide) ?_
  refine ev_cut (pj := 44) (Lj := [some (.ref (cw_z g + 68)), some (.int x1), some (.int x2), some (.int x3), none, none]) (stj := [(.int (qs0m3_X12_sign_68 n I A J t x1 x2 x3))]) (σj := hp g I A J t) ?_ (fun hJ_3 => ?_)
  rotate_left
  · refine ev_icmp_eq (pc := 3) (tgt := 10) dX12_sign_3 (by decide) (fun c_3 => ?_) (fun c_3 => ?_)
    · refine ev_iload_n (pc := 10) dX12_sign_10 rfl ?_
      refine ev_bipush (pc := 11) (v := 61) dX12_sign_11 (by decide) ?_
      refine ev_cut (pj := 44) (Lj := [some (.ref (cw_z g + 68)), some (.int x1), some (.int x2), some (.int x3), none, none]) (stj := [(.int (qs0m13_X12_sign_68 n I A J t x1 x2 x3))]) (σj := hp g I A J t) ?_ (fun hJ_13 => ?_)
      rotate_left
      · refine ev_icmp_ne (pc := 13) (tgt := 21) dX12_sign_13 (by decide) (fun c_13 => ?_) (fun c_13 => ?_)
        · refine ev_iload_n (pc := 21) dX12_sign_21 rfl ?_
          refine ev_bipush (pc := 22) (v := 33) dX12_sign_22 (by decide) ?_
          refine ev_cut (pj := 44) (Lj := [some (.ref (cw_z g + 68)), some (.int x1), some (.int x2), some (.int x3), none, none]) (stj := [(.int (qs0m24_X12_sign_68 n I A J t x1 x2 x3))]) (σj := hp g I A J t) ?_ (fun hJ_24 => ?_)
          rotate_left
          · refine ev_icmp_ne (pc := 24) (tgt := 32) dX12_sign_24 (by decide) (fun c_24 => ?_) (fun c_24 => ?_)
            · refine ev_iload_n (pc := 32) dX12_sign_32 rfl ?_
              refine ev_bipush (pc := 33) (v := 60) dX12_sign_33 (by decide) ?_
              refine ev_cut (pj := 44) (Lj := [some (.ref (cw_z g + 68)), some (.int x1), some (.int x2), some (.int x3), none, none]) (stj := [(.int (qs0m35_X12_sign_68 n I A J t x1 x2 x3))]) (σj := hp g I A J t) ?_ (fun hJ_35 => ?_)
              rotate_left
              · refine ev_icmp_ne (pc := 35) (tgt := 43) dX12_sign_35 (by decide) (fun c_35 => ?_) (fun c_35 => ?_)
                · refine ev_iconst (pc := 43) (v := 0) dX12_sign_43 (by decide) ?_
                  simp only [qs0m35_X12_sign_68, if_neg c_35] at hJ_35
                  exact ev_loc hJ_35 cw_le0
                · refine ev_bipush (pc := 38) (v := 14) dX12_sign_38 (by decide) ?_
                  refine ev_goto (pc := 40) (tgt := 44) dX12_sign_40 (by decide) ?_
                  simp only [qs0m35_X12_sign_68, if_pos c_35] at hJ_35
                  exact ev_loc hJ_35 cw_le0
              simp only [qs0m24_X12_sign_68, if_neg c_24] at hJ_24
              exact ev_loc hJ_24 cw_le0
            · refine ev_bipush (pc := 27) (v := 12) dX12_sign_27 (by decide) ?_
              refine ev_goto (pc := 29) (tgt := 44) dX12_sign_29 (by decide) ?_
              simp only [qs0m24_X12_sign_68, if_pos c_24] at hJ_24
              exact ev_loc hJ_24 cw_le0
          simp only [qs0m13_X12_sign_68, if_neg c_13] at hJ_13
          exact ev_loc hJ_13 cw_le0
        · refine ev_bipush (pc := 16) (v := 11) dX12_sign_16 (by decide) ?_
          refine ev_goto (pc := 18) (tgt := 44) dX12_sign_18 (by decide) ?_
          simp only [qs0m13_X12_sign_68, if_pos c_13] at hJ_13
          exact ev_loc hJ_13 cw_le0
      simp only [qs0m3_X12_sign_68, if_pos c_3] at hJ_3
      exact ev_loc hJ_3 cw_le0
    · refine ev_iconst (pc := 6) (v := 0) dX12_sign_6 (by decide) ?_
      refine ev_goto (pc := 7) (tgt := 44) dX12_sign_7 (by decide) ?_
      simp only [qs0m3_X12_sign_68, if_neg c_3] at hJ_3
      exact ev_loc hJ_3 cw_le0
  refine ev_istore_4 (pc := 44) dX12_sign_44 (by decide) rfl ?_
  refine ev_iconst (pc := 46) (v := 3) dX12_sign_46 (by decide) ?_
  refine ev_istore_5 (pc := 47) dX12_sign_47 (by decide) rfl ?_
  refine ev_iload (pc := 49) dX12_sign_49 rfl ?_
  refine ev_cut (pj := 148) (Lj := [some (.ref (cw_z g + 68)), some (.int x1), some (.int x2), some (.int x3), some (.int (qs0m3_X12_sign_68 n I A J t x1 x2 x3)), some (.int (ql5m51_X12_sign_68 n I A J t x1 x2 x3))]) (stj := []) (σj := hp g I A J t) ?_ (fun hJ_51 => ?_)
  rotate_left
  · refine ev_if_le (pc := 51) (tgt := 61) dX12_sign_51 (by decide) (fun c_51 => ?_) (fun c_51 => ?_)
    · refine ev_iload_n (pc := 61) dX12_sign_61 rfl ?_
      refine ev_bipush (pc := 62) (v := 59) dX12_sign_62 (by decide) ?_
      refine ev_cut (pj := 148) (Lj := [some (.ref (cw_z g + 68)), some (.int x1), some (.int x2), some (.int x3), some (.int (qs0m3_X12_sign_68 n I A J t x1 x2 x3)), some (.int (ql5m64_X12_sign_68 n I A J t x1 x2 x3))]) (stj := []) (σj := hp g I A J t) ?_ (fun hJ_64 => ?_)
      rotate_left
      · refine ev_icmp_ne (pc := 64) (tgt := 73) dX12_sign_64 (by decide) (fun c_64 => ?_) (fun c_64 => ?_)
        · refine ev_iload_n (pc := 73) dX12_sign_73 rfl ?_
          refine ev_bipush (pc := 74) (v := 40) dX12_sign_74 (by decide) ?_
          refine ev_cut (pj := 148) (Lj := [some (.ref (cw_z g + 68)), some (.int x1), some (.int x2), some (.int x3), some (.int (qs0m3_X12_sign_68 n I A J t x1 x2 x3)), some (.int (ql5m76_X12_sign_68 n I A J t x1 x2 x3))]) (stj := []) (σj := hp g I A J t) ?_ (fun hJ_76 => ?_)
          rotate_left
          · refine ev_icmp_ne (pc := 76) (tgt := 86) dX12_sign_76 (by decide) (fun c_76 => ?_) (fun c_76 => ?_)
            · refine ev_iload_n (pc := 86) dX12_sign_86 rfl ?_
              refine ev_bipush (pc := 87) (v := 41) dX12_sign_87 (by decide) ?_
              refine ev_cut (pj := 148) (Lj := [some (.ref (cw_z g + 68)), some (.int x1), some (.int x2), some (.int x3), some (.int (qs0m3_X12_sign_68 n I A J t x1 x2 x3)), some (.int (ql5m89_X12_sign_68 n I A J t x1 x2 x3))]) (stj := []) (σj := hp g I A J t) ?_ (fun hJ_89 => ?_)
              rotate_left
              · refine ev_icmp_ne (pc := 89) (tgt := 99) dX12_sign_89 (by decide) (fun c_89 => ?_) (fun c_89 => ?_)
                · refine ev_iload_n (pc := 99) dX12_sign_99 rfl ?_
                  refine ev_bipush (pc := 100) (v := 43) dX12_sign_100 (by decide) ?_
                  refine ev_cut (pj := 148) (Lj := [some (.ref (cw_z g + 68)), some (.int x1), some (.int x2), some (.int x3), some (.int (qs0m3_X12_sign_68 n I A J t x1 x2 x3)), some (.int (ql5m102_X12_sign_68 n I A J t x1 x2 x3))]) (stj := []) (σj := hp g I A J t) ?_ (fun hJ_102 => ?_)
                  rotate_left
                  · refine ev_icmp_ne (pc := 102) (tgt := 112) dX12_sign_102 (by decide) (fun c_102 => ?_) (fun c_102 => ?_)
                    · refine ev_iload_n (pc := 112) dX12_sign_112 rfl ?_
                      refine ev_bipush (pc := 113) (v := 45) dX12_sign_113 (by decide) ?_
                      refine ev_cut (pj := 148) (Lj := [some (.ref (cw_z g + 68)), some (.int x1), some (.int x2), some (.int x3), some (.int (qs0m3_X12_sign_68 n I A J t x1 x2 x3)), some (.int (ql5m115_X12_sign_68 n I A J t x1 x2 x3))]) (stj := []) (σj := hp g I A J t) ?_ (fun hJ_115 => ?_)
                      rotate_left
                      · refine ev_icmp_ne (pc := 115) (tgt := 125) dX12_sign_115 (by decide) (fun c_115 => ?_) (fun c_115 => ?_)
                        · refine ev_iload_n (pc := 125) dX12_sign_125 rfl ?_
                          refine ev_bipush (pc := 126) (v := 42) dX12_sign_126 (by decide) ?_
                          refine ev_cut (pj := 148) (Lj := [some (.ref (cw_z g + 68)), some (.int x1), some (.int x2), some (.int x3), some (.int (qs0m3_X12_sign_68 n I A J t x1 x2 x3)), some (.int (ql5m128_X12_sign_68 n I A J t x1 x2 x3))]) (stj := []) (σj := hp g I A J t) ?_ (fun hJ_128 => ?_)
                          rotate_left
                          · refine ev_icmp_ne (pc := 128) (tgt := 138) dX12_sign_128 (by decide) (fun c_128 => ?_) (fun c_128 => ?_)
                            · refine ev_iload_n (pc := 138) dX12_sign_138 rfl ?_
                              refine ev_bipush (pc := 139) (v := 60) dX12_sign_139 (by decide) ?_
                              refine ev_cut (pj := 148) (Lj := [some (.ref (cw_z g + 68)), some (.int x1), some (.int x2), some (.int x3), some (.int (qs0m3_X12_sign_68 n I A J t x1 x2 x3)), some (.int (ql5m141_X12_sign_68 n I A J t x1 x2 x3))]) (stj := []) (σj := hp g I A J t) ?_ (fun hJ_141 => ?_)
                              rotate_left
                              · refine ev_icmp_ne (pc := 141) (tgt := 148) dX12_sign_141 (by decide) (fun c_141 => ?_) (fun c_141 => ?_)
                                · simp only [ql5m141_X12_sign_68, if_neg c_141] at hJ_141
                                  exact ev_loc hJ_141 cw_le0
                                · refine ev_bipush (pc := 144) (v := 13) dX12_sign_144 (by decide) ?_
                                  refine ev_istore_5 (pc := 146) dX12_sign_146 (by decide) rfl ?_
                                  simp only [ql5m141_X12_sign_68, if_pos c_141] at hJ_141
                                  exact ev_loc hJ_141 cw_le0
                              simp only [ql5m128_X12_sign_68, if_neg c_128] at hJ_128
                              exact ev_loc hJ_128 cw_le0
                            · refine ev_bipush (pc := 131) (v := 10) dX12_sign_131 (by decide) ?_
                              refine ev_istore_5 (pc := 133) dX12_sign_133 (by decide) rfl ?_
                              refine ev_goto (pc := 135) (tgt := 148) dX12_sign_135 (by decide) ?_
                              simp only [ql5m128_X12_sign_68, if_pos c_128] at hJ_128
                              exact ev_loc hJ_128 cw_le0
                          simp only [ql5m115_X12_sign_68, if_neg c_115] at hJ_115
                          exact ev_loc hJ_115 cw_le0
                        · refine ev_bipush (pc := 118) (v := 9) dX12_sign_118 (by decide) ?_
                          refine ev_istore_5 (pc := 120) dX12_sign_120 (by decide) rfl ?_
                          refine ev_goto (pc := 122) (tgt := 148) dX12_sign_122 (by decide) ?_
                          simp only [ql5m115_X12_sign_68, if_pos c_115] at hJ_115
                          exact ev_loc hJ_115 cw_le0
                      simp only [ql5m102_X12_sign_68, if_neg c_102] at hJ_102
                      exact ev_loc hJ_102 cw_le0
                    · refine ev_bipush (pc := 105) (v := 8) dX12_sign_105 (by decide) ?_
                      refine ev_istore_5 (pc := 107) dX12_sign_107 (by decide) rfl ?_
                      refine ev_goto (pc := 109) (tgt := 148) dX12_sign_109 (by decide) ?_
                      simp only [ql5m102_X12_sign_68, if_pos c_102] at hJ_102
                      exact ev_loc hJ_102 cw_le0
                  simp only [ql5m89_X12_sign_68, if_neg c_89] at hJ_89
                  exact ev_loc hJ_89 cw_le0
                · refine ev_bipush (pc := 92) (v := 7) dX12_sign_92 (by decide) ?_
                  refine ev_istore_5 (pc := 94) dX12_sign_94 (by decide) rfl ?_
                  refine ev_goto (pc := 96) (tgt := 148) dX12_sign_96 (by decide) ?_
                  simp only [ql5m89_X12_sign_68, if_pos c_89] at hJ_89
                  exact ev_loc hJ_89 cw_le0
              simp only [ql5m76_X12_sign_68, if_neg c_76] at hJ_76
              exact ev_loc hJ_76 cw_le0
            · refine ev_bipush (pc := 79) (v := 6) dX12_sign_79 (by decide) ?_
              refine ev_istore_5 (pc := 81) dX12_sign_81 (by decide) rfl ?_
              refine ev_goto (pc := 83) (tgt := 148) dX12_sign_83 (by decide) ?_
              simp only [ql5m76_X12_sign_68, if_pos c_76] at hJ_76
              exact ev_loc hJ_76 cw_le0
          simp only [ql5m64_X12_sign_68, if_neg c_64] at hJ_64
          exact ev_loc hJ_64 cw_le0
        · refine ev_iconst (pc := 67) (v := 4) dX12_sign_67 (by decide) ?_
          refine ev_istore_5 (pc := 68) dX12_sign_68 (by decide) rfl ?_
          refine ev_goto (pc := 70) (tgt := 148) dX12_sign_70 (by decide) ?_
          simp only [ql5m64_X12_sign_68, if_pos c_64] at hJ_64
          exact ev_loc hJ_64 cw_le0
      simp only [ql5m51_X12_sign_68, if_pos c_51] at hJ_51
      exact ev_loc hJ_51 cw_le0
    · refine ev_iload (pc := 54) dX12_sign_54 rfl ?_
      refine ev_istore_5 (pc := 56) dX12_sign_56 (by decide) rfl ?_
      refine ev_goto (pc := 58) (tgt := 148) dX12_sign_58 (by decide) ?_
      simp only [ql5m51_X12_sign_68, if_neg c_51] at hJ_51
      exact ev_loc hJ_51 cw_le0
  refine ev_aload_n (pc := 148) dX12_sign_148 rfl ?_
  refine ev_iload (pc := 149) dX12_sign_149 rfl ?_
  refine ev_iload_n (pc := 151) dX12_sign_151 rfl ?_
  refine ev_iconst (pc := 152) (v := 0) dX12_sign_152 (by decide) ?_
  refine ev_lconst (pc := 153) (v := 0) dX12_sign_153 (by decide) ?_
  refine ev_Vv (pc := 154) dX12_sign_154 lk_X12_200 cd_X12_token ar_X12_token ⟨by decide, rfl, rfl⟩ (cv_X12_token_68 g n I A J t (ql5m51_X12_sign_68 n I A J t x1 x2 x3) x1 0 0 hb) (show 68 < 120 by decide) rfl rfl rfl rfl (Nat.le_of_ble_eq_true rfl) ⟨by decide, by decide⟩ ?_
  refine ev_iload (pc := 157) dX12_sign_157 rfl ?_
  refine ev_cut (pj := 167) (Lj := [some (.ref (cw_z g + 68)), some (.int x1), some (.int x2), some (.int x3), some (.int (qs0m3_X12_sign_68 n I A J t x1 x2 x3)), some (.int (ql5m51_X12_sign_68 n I A J t x1 x2 x3))]) (stj := [(.int (qs0m159_X12_sign_68 n I A J t x1 x2 x3))]) (σj := hp g (pI_X12_token_68 n I A J t (ql5m51_X12_sign_68 n I A J t x1 x2 x3) x1 0 0) (pA_X12_token_68 n I A J t (ql5m51_X12_sign_68 n I A J t x1 x2 x3) x1 0 0) (pJ_X12_token_68 n I A J t (ql5m51_X12_sign_68 n I A J t x1 x2 x3) x1 0 0) t) ?_ (fun hJ_159 => ?_)
  rotate_left
  · refine ev_if_le (pc := 159) (tgt := 166) dX12_sign_159 (by decide) (fun c_159 => ?_) (fun c_159 => ?_)
    · refine ev_iconst (pc := 166) (v := 1) dX12_sign_166 (by decide) ?_
      simp only [qs0m159_X12_sign_68, if_pos c_159] at hJ_159
      exact ev_loc hJ_159 cw_le0
    · refine ev_iconst (pc := 162) (v := 2) dX12_sign_162 (by decide) ?_
      refine ev_goto (pc := 163) (tgt := 167) dX12_sign_163 (by decide) ?_
      simp only [qs0m159_X12_sign_68, if_neg c_159] at hJ_159
      exact ev_loc hJ_159 cw_le0
  exact ev_iret (pc := 167) dX12_sign_167 rfl (by decide) (by decide) (hQ _ _ ⟨rfl, rfl⟩)

def qs0m17_X12_is_68 (n : Nat) (I : Nat → Nat → Int32) (A : Nat → Nat → Int32) (J : Nat → Nat → Int64) (t : Bool × Bool) (x1 : Int32) : Int32 := if (A 71 ((I 68 11)).toNatClampNeg) = x1 then 1 else 0
def qs0m4_X12_is_68 (n : Nat) (I : Nat → Nat → Int32) (A : Nat → Nat → Int32) (J : Nat → Nat → Int64) (t : Bool × Bool) (x1 : Int32) : Int32 := if (I 68 13) = 0 then (qs0m17_X12_is_68 n I A J t x1) else 0
def pb_X12_is_68 (n : Nat) (I : Nat → Nat → Int32) (A : Nat → Nat → Int32) (J : Nat → Nat → Int64) (t : Bool × Bool) (x1 : Int32) : Prop := ((I 68 13) = 0 → vp_in (I 68 11) 403)
def px_X12_is_68 (n : Nat) (I : Nat → Nat → Int32) (A : Nat → Nat → Int32) (J : Nat → Nat → Int64) (t : Bool × Bool) (x1 : Int32) : Int32 := (qs0m4_X12_is_68 n I A J t x1)
set_option maxRecDepth 100000 in
set_option maxHeartbeats 4000000 in
theorem cv_X12_is_68 (g : cw_G) (n : Nat) (I : Nat → Nat → Int32) (A : Nat → Nat → Int32) (J : Nat → Nat → Int64) (t : Bool × Bool) (x1 : Int32) (hb : pb_X12_is_68 n I A J t x1) : Cd g mX12_is [(.ref (cw_z g + 68)), (.int x1)] (hp g I A J t) (some (.int (px_X12_is_68 n I A J t x1))) (hp g I A J t) := by
  unfold pb_X12_is_68 at hb
  unfold px_X12_is_68
  refine Cd.of rfl (Nat.le_of_ble_eq_true rfl) (ev_gen (fun Q hQ => ?_))
  refine ev_aload_n (pc := 0) dX12_is_0 rfl ?_
  refine tv_geti (pc := 1) dX12_is_1 fl_X12_215 (by decide) rfl rfl ?_
  have hF_4 := hb
  refine ev_cut (pj := 25) (Lj := [some (.ref (cw_z g + 68)), some (.int x1)]) (stj := [(.int (qs0m4_X12_is_68 n I A J t x1))]) (σj := hp g I A J t) ?_ (fun hJ_4 => ?_)
  rotate_left
  · refine ev_if_ne (pc := 4) (tgt := 24) dX12_is_4 (by decide) (fun c_4 => ?_) (fun c_4 => ?_)
    · refine ev_iconst (pc := 24) (v := 0) dX12_is_24 (by decide) ?_
      simp only [qs0m4_X12_is_68, if_neg c_4] at hJ_4
      exact ev_loc hJ_4 cw_le0
    · have hb := hF_4 c_4
      refine ev_aload_n (pc := 7) dX12_is_7 rfl ?_
      refine tv_getr (pc := 8) (d := 71) dX12_is_8 fl_X12_20 (by decide) rfl rfl ?_
      refine ev_aload_n (pc := 11) dX12_is_11 rfl ?_
      refine tv_geti (pc := 12) dX12_is_12 fl_X12_218 (by decide) rfl rfl ?_
      refine ev_iald (pc := 15) dX12_is_15 (by decide) rfl hb ?_
      refine ev_iload_n (pc := 16) dX12_is_16 rfl ?_
      refine ev_cut (pj := 25) (Lj := [some (.ref (cw_z g + 68)), some (.int x1)]) (stj := [(.int (qs0m17_X12_is_68 n I A J t x1))]) (σj := hp g I A J t) ?_ (fun hJ_17 => ?_)
      rotate_left
      · refine ev_icmp_ne (pc := 17) (tgt := 24) dX12_is_17 (by decide) (fun c_17 => ?_) (fun c_17 => ?_)
        · refine ev_iconst (pc := 24) (v := 0) dX12_is_24 (by decide) ?_
          simp only [qs0m17_X12_is_68, if_neg c_17] at hJ_17
          exact ev_loc hJ_17 cw_le0
        · refine ev_iconst (pc := 20) (v := 1) dX12_is_20 (by decide) ?_
          refine ev_goto (pc := 21) (tgt := 25) dX12_is_21 (by decide) ?_
          simp only [qs0m17_X12_is_68, if_pos c_17] at hJ_17
          exact ev_loc hJ_17 cw_le0
      simp only [qs0m4_X12_is_68, if_pos c_4] at hJ_4
      exact ev_loc hJ_4 cw_le0
  exact ev_zret (pc := 25) dX12_is_25 rfl (cw_nz (cw_ite (cw_ite (Or.inr rfl) (Or.inl rfl)) (Or.inl rfl))) (by decide) (by decide) (hQ _ _ ⟨rfl, rfl⟩)

theorem z1_X12_is_68 (n : Nat) (I : Nat → Nat → Int32) (A : Nat → Nat → Int32) (J : Nat → Nat → Int64) (t : Bool × Bool) (x1 : Int32) : px_X12_is_68 n I A J t x1 = 0 ∨ px_X12_is_68 n I A J t x1 = 1 := (cw_ite (cw_ite (Or.inr rfl) (Or.inl rfl)) (Or.inl rfl))

def qI10_X12_fail_68 (n : Nat) (I : Nat → Nat → Int32) (A : Nat → Nat → Int32) (J : Nat → Nat → Int64) (t : Bool × Bool) (x1 : Int32) : Nat → Nat → Int32 := cw_u I 68 13 x1
def qI23_X12_fail_68 (n : Nat) (I : Nat → Nat → Int32) (A : Nat → Nat → Int32) (J : Nat → Nat → Int64) (t : Bool × Bool) (x1 : Int32) : Nat → Nat → Int32 := cw_u (qI10_X12_fail_68 n I A J t x1) 68 14 (A 72 (((qI10_X12_fail_68 n I A J t x1) 68 11)).toNatClampNeg)
def pb_X12_fail_68 (n : Nat) (I : Nat → Nat → Int32) (A : Nat → Nat → Int32) (J : Nat → Nat → Int64) (t : Bool × Bool) (x1 : Int32) : Prop := ((I 68 13) ≤ 0 → vp_in ((qI10_X12_fail_68 n I A J t x1) 68 11) 403)
def pI_X12_fail_68 (n : Nat) (I : Nat → Nat → Int32) (A : Nat → Nat → Int32) (J : Nat → Nat → Int64) (t : Bool × Bool) (x1 : Int32) : Nat → Nat → Int32 := (if (I 68 13) ≤ 0 then (qI23_X12_fail_68 n I A J t x1) else I)
set_option maxRecDepth 100000 in
set_option maxHeartbeats 4000000 in
theorem cv_X12_fail_68 (g : cw_G) (n : Nat) (I : Nat → Nat → Int32) (A : Nat → Nat → Int32) (J : Nat → Nat → Int64) (t : Bool × Bool) (x1 : Int32) (hb : pb_X12_fail_68 n I A J t x1) : Cd g mX12_fail [(.ref (cw_z g + 68)), (.int x1)] (hp g I A J t) none (hp g (pI_X12_fail_68 n I A J t x1) A J t) := by
  unfold pb_X12_fail_68 at hb
  unfold pI_X12_fail_68
  refine Cd.of rfl (Nat.le_of_ble_eq_true rfl) (ev_gen (fun Q hQ => ?_))
  refine ev_aload_n (pc := 0) dX12_fail_0 rfl ?_
  refine tv_geti (pc := 1) dX12_fail_1 fl_X12_215 (by decide) rfl rfl ?_
  have hT_4 := hb
  refine ev_if_le (pc := 4) (tgt := 8) dX12_fail_4 (by decide) (fun c_4 => ?_) (fun c_4 => ?_)
  · have hb := hT_4 c_4
    try simp only [if_pos c_4] at hQ
    refine ev_aload_n (pc := 8) dX12_fail_8 rfl ?_
    refine ev_iload_n (pc := 9) dX12_fail_9 rfl ?_
    refine tw_puti (pc := 10) (I2 := (qI10_X12_fail_68 n I A J t x1)) dX12_fail_10 fp_X12_215 (by decide) rfl rfl rfl ?_
    refine ev_aload_n (pc := 13) dX12_fail_13 rfl ?_
    refine ev_aload_n (pc := 14) dX12_fail_14 rfl ?_
    refine tv_getr (pc := 15) (d := 72) dX12_fail_15 fl_X12_24 (by decide) rfl rfl ?_
    refine ev_aload_n (pc := 18) dX12_fail_18 rfl ?_
    refine tv_geti (pc := 19) dX12_fail_19 fl_X12_218 (by decide) rfl rfl ?_
    refine ev_iald (pc := 22) dX12_fail_22 (by decide) rfl hb ?_
    refine tw_puti (pc := 23) (I2 := (qI23_X12_fail_68 n I A J t x1)) dX12_fail_23 fp_X12_221 (by decide) rfl rfl rfl ?_
    exact ev_vret (pc := 26) dX12_fail_26 rfl (by decide) (by decide) (hQ _ _ ⟨rfl, rfl⟩)
  · try simp only [if_neg c_4] at hQ
    exact ev_vret (pc := 7) dX12_fail_7 rfl (by decide) (by decide) (hQ _ _ ⟨rfl, rfl⟩)

def q6_X12_wrong_68 (n : Nat) (I : Nat → Nat → Int32) (A : Nat → Nat → Int32) (J : Nat → Nat → Int64) (t : Bool × Bool) (x1 : Int32) (x2 : Int32) : Int32 := (A 72 (x2).toNatClampNeg)
def qI48_X12_wrong_68 (n : Nat) (I : Nat → Nat → Int32) (A : Nat → Nat → Int32) (J : Nat → Nat → Int64) (t : Bool × Bool) (x1 : Int32) (x2 : Int32) : Nat → Nat → Int32 := cw_u I 68 15 x1
def qI53_X12_wrong_68 (n : Nat) (I : Nat → Nat → Int32) (A : Nat → Nat → Int32) (J : Nat → Nat → Int64) (t : Bool × Bool) (x1 : Int32) (x2 : Int32) : Nat → Nat → Int32 := cw_u (qI48_X12_wrong_68 n I A J t x1 x2) 68 16 (q6_X12_wrong_68 n I A J t x1 x2)
def pb_X12_wrong_68 (n : Nat) (I : Nat → Nat → Int32) (A : Nat → Nat → Int32) (J : Nat → Nat → Int64) (t : Bool × Bool) (x1 : Int32) (x2 : Int32) : Prop := vp_in x2 403
def pI_X12_wrong_68 (n : Nat) (I : Nat → Nat → Int32) (A : Nat → Nat → Int32) (J : Nat → Nat → Int64) (t : Bool × Bool) (x1 : Int32) (x2 : Int32) : Nat → Nat → Int32 := (if 0 < (I 68 13) then I else (if (I 68 15) = 0 then (qI53_X12_wrong_68 n I A J t x1 x2) else (if (I 68 16) < (q6_X12_wrong_68 n I A J t x1 x2) then I else (if (q6_X12_wrong_68 n I A J t x1 x2) = (I 68 16) then (if x1 < (I 68 15) then (qI53_X12_wrong_68 n I A J t x1 x2) else I) else (qI53_X12_wrong_68 n I A J t x1 x2)))))
set_option maxRecDepth 100000 in
set_option maxHeartbeats 4000000 in
theorem cv_X12_wrong_68 (g : cw_G) (n : Nat) (I : Nat → Nat → Int32) (A : Nat → Nat → Int32) (J : Nat → Nat → Int64) (t : Bool × Bool) (x1 : Int32) (x2 : Int32) (hb : pb_X12_wrong_68 n I A J t x1 x2) : Cd g mX12_wrong [(.ref (cw_z g + 68)), (.int x1), (.int x2)] (hp g I A J t) none (hp g (pI_X12_wrong_68 n I A J t x1 x2) A J t) := by
  unfold pb_X12_wrong_68 at hb
  unfold pI_X12_wrong_68
  refine Cd.of rfl (Nat.le_of_ble_eq_true rfl) (ev_gen (fun Q hQ => ?_))
  refine ev_aload_n (pc := 0) dX12_wrong_0 rfl ?_
  refine tv_getr (pc := 1) (d := 72) dX12_wrong_1 fl_X12_24 (by decide) rfl rfl ?_
  refine ev_iload_n (pc := 4) dX12_wrong_4 rfl ?_
  refine ev_iald (pc := 5) dX12_wrong_5 (by decide) rfl hb ?_
  refine ev_is (y := (q6_X12_wrong_68 n I A J t x1 x2)) rfl ?_
  refine ev_istore_3 (pc := 6) dX12_wrong_6 (by decide) rfl ?_
  refine ev_aload_n (pc := 7) dX12_wrong_7 rfl ?_
  refine tv_geti (pc := 8) dX12_wrong_8 fl_X12_215 (by decide) rfl rfl ?_
  refine ev_if_gt (pc := 11) (tgt := 45) dX12_wrong_11 (by decide) (fun c_11 => ?_) (fun c_11 => ?_)
  · try simp only [if_pos c_11] at hQ
    exact ev_vret (pc := 45) dX12_wrong_45 rfl (by decide) (by decide) (hQ _ _ ⟨rfl, rfl⟩)
  · try simp only [if_neg c_11] at hQ
    refine ev_aload_n (pc := 14) dX12_wrong_14 rfl ?_
    refine tv_geti (pc := 15) dX12_wrong_15 fl_X12_224 (by decide) rfl rfl ?_
    refine ev_if_eq (pc := 18) (tgt := 46) dX12_wrong_18 (by decide) (fun c_18 => ?_) (fun c_18 => ?_)
    · try simp only [if_pos c_18] at hQ
      refine ev_aload_n (pc := 46) dX12_wrong_46 rfl ?_
      refine ev_iload_n (pc := 47) dX12_wrong_47 rfl ?_
      refine tw_puti (pc := 48) (I2 := (qI48_X12_wrong_68 n I A J t x1 x2)) dX12_wrong_48 fp_X12_224 (by decide) rfl rfl rfl ?_
      refine ev_aload_n (pc := 51) dX12_wrong_51 rfl ?_
      refine ev_iload_n (pc := 52) dX12_wrong_52 rfl ?_
      refine tw_puti (pc := 53) (I2 := (qI53_X12_wrong_68 n I A J t x1 x2)) dX12_wrong_53 fp_X12_227 (by decide) rfl rfl rfl ?_
      exact ev_vret (pc := 56) dX12_wrong_56 rfl (by decide) (by decide) (hQ _ _ ⟨rfl, rfl⟩)
    · try simp only [if_neg c_18] at hQ
      refine ev_iload_n (pc := 21) dX12_wrong_21 rfl ?_
      refine ev_aload_n (pc := 22) dX12_wrong_22 rfl ?_
      refine tv_geti (pc := 23) dX12_wrong_23 fl_X12_227 (by decide) rfl rfl ?_
      refine ev_icmp_gt (pc := 26) (tgt := 45) dX12_wrong_26 (by decide) (fun c_26 => ?_) (fun c_26 => ?_)
      · try simp only [if_pos c_26] at hQ
        exact ev_vret (pc := 45) dX12_wrong_45 rfl (by decide) (by decide) (hQ _ _ ⟨rfl, rfl⟩)
      · try simp only [if_neg c_26] at hQ
        refine ev_iload_n (pc := 29) dX12_wrong_29 rfl ?_
        refine ev_aload_n (pc := 30) dX12_wrong_30 rfl ?_
        refine tv_geti (pc := 31) dX12_wrong_31 fl_X12_227 (by decide) rfl rfl ?_
        refine ev_icmp_ne (pc := 34) (tgt := 46) dX12_wrong_34 (by decide) (fun c_34 => ?_) (fun c_34 => ?_)
        · try simp only [if_neg c_34] at hQ
          refine ev_aload_n (pc := 46) dX12_wrong_46 rfl ?_
          refine ev_iload_n (pc := 47) dX12_wrong_47 rfl ?_
          refine tw_puti (pc := 48) (I2 := (qI48_X12_wrong_68 n I A J t x1 x2)) dX12_wrong_48 fp_X12_224 (by decide) rfl rfl rfl ?_
          refine ev_aload_n (pc := 51) dX12_wrong_51 rfl ?_
          refine ev_iload_n (pc := 52) dX12_wrong_52 rfl ?_
          refine tw_puti (pc := 53) (I2 := (qI53_X12_wrong_68 n I A J t x1 x2)) dX12_wrong_53 fp_X12_227 (by decide) rfl rfl rfl ?_
          exact ev_vret (pc := 56) dX12_wrong_56 rfl (by decide) (by decide) (hQ _ _ ⟨rfl, rfl⟩)
        · try simp only [if_pos c_34] at hQ
          refine ev_iload_n (pc := 37) dX12_wrong_37 rfl ?_
          refine ev_aload_n (pc := 38) dX12_wrong_38 rfl ?_
          refine tv_geti (pc := 39) dX12_wrong_39 fl_X12_224 (by decide) rfl rfl ?_
          refine ev_icmp_lt (pc := 42) (tgt := 46) dX12_wrong_42 (by decide) (fun c_42 => ?_) (fun c_42 => ?_)
          · try simp only [if_pos c_42] at hQ
            refine ev_aload_n (pc := 46) dX12_wrong_46 rfl ?_
            refine ev_iload_n (pc := 47) dX12_wrong_47 rfl ?_
            refine tw_puti (pc := 48) (I2 := (qI48_X12_wrong_68 n I A J t x1 x2)) dX12_wrong_48 fp_X12_224 (by decide) rfl rfl rfl ?_
            refine ev_aload_n (pc := 51) dX12_wrong_51 rfl ?_
            refine ev_iload_n (pc := 52) dX12_wrong_52 rfl ?_
            refine tw_puti (pc := 53) (I2 := (qI53_X12_wrong_68 n I A J t x1 x2)) dX12_wrong_53 fp_X12_227 (by decide) rfl rfl rfl ?_
            exact ev_vret (pc := 56) dX12_wrong_56 rfl (by decide) (by decide) (hQ _ _ ⟨rfl, rfl⟩)
          · try simp only [if_neg c_42] at hQ
            exact ev_vret (pc := 45) dX12_wrong_45 rfl (by decide) (by decide) (hQ _ _ ⟨rfl, rfl⟩)

def qI25_X12_next_68 (n : Nat) (I : Nat → Nat → Int32) (A : Nat → Nat → Int32) (J : Nat → Nat → Int64) (t : Bool × Bool) : Nat → Nat → Int32 := cw_u I 68 11 ((I 68 11) + 1)
def qIm7_X12_next_68 (n : Nat) (I : Nat → Nat → Int32) (A : Nat → Nat → Int32) (J : Nat → Nat → Int64) (t : Bool × Bool) : Nat → Nat → Int32 := if (I 68 11) = 400 then (pI_X12_fail_68 n I A J t 2) else (qI25_X12_next_68 n I A J t)
def pb_X12_next_68 (n : Nat) (I : Nat → Nat → Int32) (A : Nat → Nat → Int32) (J : Nat → Nat → Int64) (t : Bool × Bool) : Prop := ((I 68 11) = 400 → pb_X12_fail_68 n I A J t 2)
def pI_X12_next_68 (n : Nat) (I : Nat → Nat → Int32) (A : Nat → Nat → Int32) (J : Nat → Nat → Int64) (t : Bool × Bool) : Nat → Nat → Int32 := (qIm7_X12_next_68 n I A J t)
set_option maxRecDepth 100000 in
set_option maxHeartbeats 4000000 in
theorem cv_X12_next_68 (g : cw_G) (n : Nat) (I : Nat → Nat → Int32) (A : Nat → Nat → Int32) (J : Nat → Nat → Int64) (t : Bool × Bool) (hb : pb_X12_next_68 n I A J t) : Cd g mX12_next [(.ref (cw_z g + 68))] (hp g I A J t) none (hp g (pI_X12_next_68 n I A J t) A J t) := by
  unfold pb_X12_next_68 at hb
  unfold pI_X12_next_68
  refine Cd.of rfl (Nat.le_of_ble_eq_true rfl) (ev_gen (fun Q hQ => ?_))
  refine ev_aload_n (pc := 0) dX12_next_0 rfl ?_
  refine tv_geti (pc := 1) dX12_next_1 fl_X12_218 (by decide) rfl rfl ?_
  refine ev_sipush (pc := 4) (v := 400) dX12_next_4 (by decide) ?_
  have hF_7 := hb
  refine ev_cut (pj := 28) (Lj := [some (.ref (cw_z g + 68))]) (stj := []) (σj := hp g (qIm7_X12_next_68 n I A J t) A J t) ?_ (fun hJ_7 => ?_)
  rotate_left
  · refine ev_icmp_ne (pc := 7) (tgt := 18) dX12_next_7 (by decide) (fun c_7 => ?_) (fun c_7 => ?_)
    · refine ev_aload_n (pc := 18) dX12_next_18 rfl ?_
      refine ev_dup (pc := 19) dX12_next_19 rfl ?_
      refine tv_geti (pc := 20) dX12_next_20 fl_X12_218 (by decide) rfl rfl ?_
      refine ev_iconst (pc := 23) (v := 1) dX12_next_23 (by decide) ?_
      refine ev_iadd (pc := 24) dX12_next_24 ?_
      refine tw_puti (pc := 25) (I2 := (qI25_X12_next_68 n I A J t)) dX12_next_25 fp_X12_218 (by decide) rfl rfl rfl ?_
      simp only [qIm7_X12_next_68, if_neg c_7] at hJ_7
      exact ev_loc hJ_7 cw_le0
    · have hb := hF_7 c_7
      refine ev_aload_n (pc := 10) dX12_next_10 rfl ?_
      refine ev_iconst (pc := 11) (v := 2) dX12_next_11 (by decide) ?_
      refine ev_Vv (pc := 12) dX12_next_12 lk_X12_230 cd_X12_fail ar_X12_fail ⟨by decide, rfl, rfl⟩ (cv_X12_fail_68 g n I A J t 2 hb) (show 68 < 120 by decide) rfl rfl rfl rfl (Nat.le_of_ble_eq_true rfl) ⟨by decide, by decide⟩ ?_
      refine ev_goto (pc := 15) (tgt := 28) dX12_next_15 (by decide) ?_
      simp only [qIm7_X12_next_68, if_pos c_7] at hJ_7
      exact ev_loc hJ_7 cw_le0
  exact ev_vret (pc := 28) dX12_next_28 rfl (by decide) (by decide) (hQ _ _ ⟨rfl, rfl⟩)

def qIm5_X12_must_68 (n : Nat) (I : Nat → Nat → Int32) (A : Nat → Nat → Int32) (J : Nat → Nat → Int64) (t : Bool × Bool) (x1 : Int32) : Nat → Nat → Int32 := if (px_X12_is_68 n I A J t x1) = 0 then (pI_X12_fail_68 n I A J t 1) else (pI_X12_next_68 n I A J t )
def pb_X12_must_68 (n : Nat) (I : Nat → Nat → Int32) (A : Nat → Nat → Int32) (J : Nat → Nat → Int64) (t : Bool × Bool) (x1 : Int32) : Prop := pb_X12_is_68 n I A J t x1 ∧ ((px_X12_is_68 n I A J t x1) = 0 → pb_X12_fail_68 n I A J t 1) ∧ (¬ (px_X12_is_68 n I A J t x1) = 0 → pb_X12_next_68 n I A J t )
def pI_X12_must_68 (n : Nat) (I : Nat → Nat → Int32) (A : Nat → Nat → Int32) (J : Nat → Nat → Int64) (t : Bool × Bool) (x1 : Int32) : Nat → Nat → Int32 := (qIm5_X12_must_68 n I A J t x1)
set_option maxRecDepth 100000 in
set_option maxHeartbeats 4000000 in
theorem cv_X12_must_68 (g : cw_G) (n : Nat) (I : Nat → Nat → Int32) (A : Nat → Nat → Int32) (J : Nat → Nat → Int64) (t : Bool × Bool) (x1 : Int32) (hb : pb_X12_must_68 n I A J t x1) : Cd g mX12_must [(.ref (cw_z g + 68)), (.int x1)] (hp g I A J t) none (hp g (pI_X12_must_68 n I A J t x1) A J t) := by
  unfold pb_X12_must_68 at hb
  unfold pI_X12_must_68
  refine Cd.of rfl (Nat.le_of_ble_eq_true rfl) (ev_gen (fun Q hQ => ?_))
  refine ev_aload_n (pc := 0) dX12_must_0 rfl ?_
  refine ev_iload_n (pc := 1) dX12_must_1 rfl ?_
  refine ev_Vi (pc := 2) dX12_must_2 lk_X12_233 cd_X12_is ar_X12_is ⟨by decide, rfl, rfl⟩ (cv_X12_is_68 g n I A J t x1 hb.1) (show 68 < 120 by decide) rfl rfl rfl rfl (Nat.le_of_ble_eq_true rfl) ⟨by decide, by decide⟩ ?_
  replace hb := hb.2
  obtain ⟨hT_5, hF_5⟩ := hb
  refine ev_cut (pj := 20) (Lj := [some (.ref (cw_z g + 68)), some (.int x1)]) (stj := []) (σj := hp g (qIm5_X12_must_68 n I A J t x1) A J t) ?_ (fun hJ_5 => ?_)
  rotate_left
  · refine ev_if_eq (pc := 5) (tgt := 15) dX12_must_5 (by decide) (fun c_5 => ?_) (fun c_5 => ?_)
    · have hb := hT_5 c_5
      refine ev_aload_n (pc := 15) dX12_must_15 rfl ?_
      refine ev_iconst (pc := 16) (v := 1) dX12_must_16 (by decide) ?_
      refine ev_Vv (pc := 17) dX12_must_17 lk_X12_230 cd_X12_fail ar_X12_fail ⟨by decide, rfl, rfl⟩ (cv_X12_fail_68 g n I A J t 1 hb) (show 68 < 120 by decide) rfl rfl rfl rfl (Nat.le_of_ble_eq_true rfl) ⟨by decide, by decide⟩ ?_
      simp only [qIm5_X12_must_68, if_pos c_5] at hJ_5
      exact ev_loc hJ_5 cw_le0
    · have hb := hF_5 c_5
      refine ev_aload_n (pc := 8) dX12_must_8 rfl ?_
      refine ev_Vv (pc := 9) dX12_must_9 lk_X12_236 cd_X12_next ar_X12_next ⟨by decide, rfl, rfl⟩ (cv_X12_next_68 g n I A J t  hb) (show 68 < 120 by decide) rfl rfl rfl rfl (Nat.le_of_ble_eq_true rfl) ⟨by decide, by decide⟩ ?_
      refine ev_goto (pc := 12) (tgt := 20) dX12_must_12 (by decide) ?_
      simp only [qIm5_X12_must_68, if_neg c_5] at hJ_5
      exact ev_loc hJ_5 cw_le0
  exact ev_vret (pc := 20) dX12_must_20 rfl (by decide) (by decide) (hQ _ _ ⟨rfl, rfl⟩)

def qA9_X12_emit_68 (n : Nat) (I : Nat → Nat → Int32) (A : Nat → Nat → Int32) (J : Nat → Nat → Int64) (t : Bool × Bool) (x1 : Int32) (x2 : Int32) : Nat → Nat → Int32 := cw_u A 86 ((I 68 30)).toNatClampNeg x1
def qA19_X12_emit_68 (n : Nat) (I : Nat → Nat → Int32) (A : Nat → Nat → Int32) (J : Nat → Nat → Int64) (t : Bool × Bool) (x1 : Int32) (x2 : Int32) : Nat → Nat → Int32 := cw_u (qA9_X12_emit_68 n I A J t x1 x2) 87 ((I 68 30)).toNatClampNeg x2
def qI27_X12_emit_68 (n : Nat) (I : Nat → Nat → Int32) (A : Nat → Nat → Int32) (J : Nat → Nat → Int64) (t : Bool × Bool) (x1 : Int32) (x2 : Int32) : Nat → Nat → Int32 := cw_u I 68 30 ((I 68 30) + 1)
def pb_X12_emit_68 (n : Nat) (I : Nat → Nat → Int32) (A : Nat → Nat → Int32) (J : Nat → Nat → Int64) (t : Bool × Bool) (x1 : Int32) (x2 : Int32) : Prop := vp_in (I 68 30) 1000 ∧ vp_in (I 68 30) 1000
def pI_X12_emit_68 (n : Nat) (I : Nat → Nat → Int32) (A : Nat → Nat → Int32) (J : Nat → Nat → Int64) (t : Bool × Bool) (x1 : Int32) (x2 : Int32) : Nat → Nat → Int32 := (qI27_X12_emit_68 n I A J t x1 x2)
def pA_X12_emit_68 (n : Nat) (I : Nat → Nat → Int32) (A : Nat → Nat → Int32) (J : Nat → Nat → Int64) (t : Bool × Bool) (x1 : Int32) (x2 : Int32) : Nat → Nat → Int32 := (qA19_X12_emit_68 n I A J t x1 x2)
set_option maxRecDepth 100000 in
set_option maxHeartbeats 4000000 in
theorem cv_X12_emit_68 (g : cw_G) (n : Nat) (I : Nat → Nat → Int32) (A : Nat → Nat → Int32) (J : Nat → Nat → Int64) (t : Bool × Bool) (x1 : Int32) (x2 : Int32) (hb : pb_X12_emit_68 n I A J t x1 x2) : Cd g mX12_emit [(.ref (cw_z g + 68)), (.int x1), (.int x2)] (hp g I A J t) none (hp g (pI_X12_emit_68 n I A J t x1 x2) (pA_X12_emit_68 n I A J t x1 x2) J t) := by
  unfold pb_X12_emit_68 at hb
  unfold pI_X12_emit_68 pA_X12_emit_68
  refine Cd.of rfl (Nat.le_of_ble_eq_true rfl) (ev_gen (fun Q hQ => ?_))
  refine ev_aload_n (pc := 0) dX12_emit_0 rfl ?_
  refine tv_getr (pc := 1) (d := 86) dX12_emit_1 fl_X12_71 (by decide) rfl rfl ?_
  refine ev_aload_n (pc := 4) dX12_emit_4 rfl ?_
  refine tv_geti (pc := 5) dX12_emit_5 fl_X12_251 (by decide) rfl rfl ?_
  refine ev_iload_n (pc := 8) dX12_emit_8 rfl ?_
  refine tw_iast (pc := 9) (A2 := (qA9_X12_emit_68 n I A J t x1 x2)) dX12_emit_9 (by decide) rfl hb.1 rfl ?_
  replace hb := hb.2
  refine ev_aload_n (pc := 10) dX12_emit_10 rfl ?_
  refine tv_getr (pc := 11) (d := 87) dX12_emit_11 fl_X12_74 (by decide) rfl rfl ?_
  refine ev_aload_n (pc := 14) dX12_emit_14 rfl ?_
  refine tv_geti (pc := 15) dX12_emit_15 fl_X12_251 (by decide) rfl rfl ?_
  refine ev_iload_n (pc := 18) dX12_emit_18 rfl ?_
  refine tw_iast (pc := 19) (A2 := (qA19_X12_emit_68 n I A J t x1 x2)) dX12_emit_19 (by decide) rfl hb rfl ?_
  refine ev_aload_n (pc := 20) dX12_emit_20 rfl ?_
  refine ev_dup (pc := 21) dX12_emit_21 rfl ?_
  refine tv_geti (pc := 22) dX12_emit_22 fl_X12_251 (by decide) rfl rfl ?_
  refine ev_iconst (pc := 25) (v := 1) dX12_emit_25 (by decide) ?_
  refine ev_iadd (pc := 26) dX12_emit_26 ?_
  refine tw_puti (pc := 27) (I2 := (qI27_X12_emit_68 n I A J t x1 x2)) dX12_emit_27 fp_X12_251 (by decide) rfl rfl rfl ?_
  exact ev_vret (pc := 30) dX12_emit_30 rfl (by decide) (by decide) (hQ _ _ ⟨rfl, rfl⟩)

def qI50_X12_comesOut_68 (n : Nat) (I : Nat → Nat → Int32) (A : Nat → Nat → Int32) (J : Nat → Nat → Int64) (t : Bool × Bool) (x1 : Int32) (I0 : Nat → Nat → Int32) (A0 : Nat → Nat → Int32) : Nat → Nat → Int32 := cw_u I0 68 34 ((I0 68 34) - 1)
def q62_X12_comesOut_68 (n : Nat) (I : Nat → Nat → Int32) (A : Nat → Nat → Int32) (J : Nat → Nat → Int64) (t : Bool × Bool) (x1 : Int32) (I0 : Nat → Nat → Int32) (A0 : Nat → Nat → Int32) : Int32 := (A0 88 (((qI50_X12_comesOut_68 n I A J t x1 I0 A0) 68 34)).toNatClampNeg)
def qs1m77_X12_comesOut_68 (n : Nat) (I : Nat → Nat → Int32) (A : Nat → Nat → Int32) (J : Nat → Nat → Int64) (t : Bool × Bool) (x1 : Int32) (I0 : Nat → Nat → Int32) (A0 : Nat → Nat → Int32) : Int32 := if (q62_X12_comesOut_68 n I A J t x1 I0 A0) = 9 then 3 else 4
def qs1m67_X12_comesOut_68 (n : Nat) (I : Nat → Nat → Int32) (A : Nat → Nat → Int32) (J : Nat → Nat → Int64) (t : Bool × Bool) (x1 : Int32) (I0 : Nat → Nat → Int32) (A0 : Nat → Nat → Int32) : Int32 := if (q62_X12_comesOut_68 n I A J t x1 I0 A0) = 8 then 2 else (qs1m77_X12_comesOut_68 n I A J t x1 I0 A0)
def lp_X12_comesOut_68_0 (n : Nat) (I : Nat → Nat → Int32) (A : Nat → Nat → Int32) (J : Nat → Nat → Int64) (t : Bool × Bool) (x1 : Int32) : Nat → (Nat → Nat → Int32) → (Nat → Nat → Int32) → (Nat → Nat → Int32) × (Nat → Nat → Int32)
  | 0, I0, A0 => (I0, A0)
  | f + 1, I0, A0 => if (I0 68 34) ≤ 0 then (I0, A0) else if (A0 88 (((I0 68 34) - 1)).toNatClampNeg) = 6 then (I0, A0) else if x1 = 0 then lp_X12_comesOut_68_0 n I A J t x1 f (pI_X12_emit_68 n (qI50_X12_comesOut_68 n I A J t x1 I0 A0) A0 J t (qs1m67_X12_comesOut_68 n I A J t x1 I0 A0) 0) (pA_X12_emit_68 n (qI50_X12_comesOut_68 n I A J t x1 I0 A0) A0 J t (qs1m67_X12_comesOut_68 n I A J t x1 I0 A0) 0) else if (A0 88 (((I0 68 34) - 1)).toNatClampNeg) = 10 then lp_X12_comesOut_68_0 n I A J t x1 f (pI_X12_emit_68 n (qI50_X12_comesOut_68 n I A J t x1 I0 A0) A0 J t (qs1m67_X12_comesOut_68 n I A J t x1 I0 A0) 0) (pA_X12_emit_68 n (qI50_X12_comesOut_68 n I A J t x1 I0 A0) A0 J t (qs1m67_X12_comesOut_68 n I A J t x1 I0 A0) 0) else (I0, A0)
def lb_X12_comesOut_68_0 (n : Nat) (I : Nat → Nat → Int32) (A : Nat → Nat → Int32) (J : Nat → Nat → Int64) (t : Bool × Bool) (x1 : Int32) : Nat → (Nat → Nat → Int32) → (Nat → Nat → Int32) → Prop
  | 0, _, _ => False
  | f + 1, I0, A0 => (¬ (I0 68 34) ≤ 0 → vp_in ((I0 68 34) - 1) 48 ∧ (¬ (A0 88 (((I0 68 34) - 1)).toNatClampNeg) = 6 → (x1 = 0 → vp_in ((qI50_X12_comesOut_68 n I A J t x1 I0 A0) 68 34) 48 ∧ pb_X12_emit_68 n (qI50_X12_comesOut_68 n I A J t x1 I0 A0) A0 J t (qs1m67_X12_comesOut_68 n I A J t x1 I0 A0) 0 ∧ lb_X12_comesOut_68_0 n I A J t x1 f (pI_X12_emit_68 n (qI50_X12_comesOut_68 n I A J t x1 I0 A0) A0 J t (qs1m67_X12_comesOut_68 n I A J t x1 I0 A0) 0) (pA_X12_emit_68 n (qI50_X12_comesOut_68 n I A J t x1 I0 A0) A0 J t (qs1m67_X12_comesOut_68 n I A J t x1 I0 A0) 0)) ∧ (¬ x1 = 0 → vp_in ((I0 68 34) - 1) 48 ∧ ((A0 88 (((I0 68 34) - 1)).toNatClampNeg) = 10 → vp_in ((qI50_X12_comesOut_68 n I A J t x1 I0 A0) 68 34) 48 ∧ pb_X12_emit_68 n (qI50_X12_comesOut_68 n I A J t x1 I0 A0) A0 J t (qs1m67_X12_comesOut_68 n I A J t x1 I0 A0) 0 ∧ lb_X12_comesOut_68_0 n I A J t x1 f (pI_X12_emit_68 n (qI50_X12_comesOut_68 n I A J t x1 I0 A0) A0 J t (qs1m67_X12_comesOut_68 n I A J t x1 I0 A0) 0) (pA_X12_emit_68 n (qI50_X12_comesOut_68 n I A J t x1 I0 A0) A0 J t (qs1m67_X12_comesOut_68 n I A J t x1 I0 A0) 0)))))
def qIw0_X12_comesOut_68 (n : Nat) (I : Nat → Nat → Int32) (A : Nat → Nat → Int32) (J : Nat → Nat → Int64) (t : Bool × Bool) (x1 : Int32) : Nat → Nat → Int32 := (lp_X12_comesOut_68_0 n I A J t x1 n I A).1
def qAw0_X12_comesOut_68 (n : Nat) (I : Nat → Nat → Int32) (A : Nat → Nat → Int32) (J : Nat → Nat → Int64) (t : Bool × Bool) (x1 : Int32) : Nat → Nat → Int32 := (lp_X12_comesOut_68_0 n I A J t x1 n I A).2
def pb_X12_comesOut_68 (n : Nat) (I : Nat → Nat → Int32) (A : Nat → Nat → Int32) (J : Nat → Nat → Int64) (t : Bool × Bool) (x1 : Int32) : Prop := lb_X12_comesOut_68_0 n I A J t x1 n I A
def pI_X12_comesOut_68 (n : Nat) (I : Nat → Nat → Int32) (A : Nat → Nat → Int32) (J : Nat → Nat → Int64) (t : Bool × Bool) (x1 : Int32) : Nat → Nat → Int32 := (qIw0_X12_comesOut_68 n I A J t x1)
def pA_X12_comesOut_68 (n : Nat) (I : Nat → Nat → Int32) (A : Nat → Nat → Int32) (J : Nat → Nat → Int64) (t : Bool × Bool) (x1 : Int32) : Nat → Nat → Int32 := (qAw0_X12_comesOut_68 n I A J t x1)
set_option maxRecDepth 100000 in
set_option maxHeartbeats 4000000 in
theorem lt_X12_comesOut_68_0 (g : cw_G) (n : Nat) (I : Nat → Nat → Int32) (A : Nat → Nat → Int32) (J : Nat → Nat → Int64) (t : Bool × Bool) (x1 : Int32) {Q : Option Value → cw_H → Prop} : ∀ (f : Nat) (I0 : Nat → Nat → Int32) (A0 : Nat → Nat → Int32) (w0 : Nat → Nat → Int32) (w1 : Nat → Nat → Int32), lb_X12_comesOut_68_0 n I A J t x1 f I0 A0 → (lp_X12_comesOut_68_0 n I A J t x1 f I0 A0).1 = w0 → (lp_X12_comesOut_68_0 n I A J t x1 f I0 A0).2 = w1 → Ev g mX12_comesOut 0 0 92 [some (.ref (cw_z g + 68)), some (.int x1), none] [] (hp g w0 w1 J t) Q → Ev g mX12_comesOut 0 0 0 [some (.ref (cw_z g + 68)), some (.int x1), none] [] (hp g I0 A0 J t) Q := by
  intro f
  induction f with
  | zero =>
    intro I0 A0 w0 w1 hb
    exact hb.elim
  | succ f ih =>
    intro I0 A0 w0 w1 hb h0 h1 hE
    rw [lb_X12_comesOut_68_0] at hb
    rw [lp_X12_comesOut_68_0] at h0 h1
    refine ev_aload_n (pc := 0) dX12_comesOut_0 rfl ?_
    refine tv_geti (pc := 1) dX12_comesOut_1 fl_X12_270 (by decide) rfl rfl ?_
    have hF_4 := hb
    refine ev_if_le (pc := 4) (tgt := 92) dX12_comesOut_4 (by decide) (fun c_4 => ?_) (fun c_4 => ?_)
    · try simp only [if_pos c_4] at h0
      try simp only [if_pos c_4] at h1
      subst h0
      subst h1
      exact ev_loc hE cw_le0
    · have hb := hF_4 c_4
      try simp only [if_neg c_4] at h0
      try simp only [if_neg c_4] at h1
      refine ev_aload_n (pc := 7) dX12_comesOut_7 rfl ?_
      refine tv_getr (pc := 8) (d := 88) dX12_comesOut_8 fl_X12_77 (by decide) rfl rfl ?_
      refine ev_aload_n (pc := 11) dX12_comesOut_11 rfl ?_
      refine tv_geti (pc := 12) dX12_comesOut_12 fl_X12_270 (by decide) rfl rfl ?_
      refine ev_iconst (pc := 15) (v := 1) dX12_comesOut_15 (by decide) ?_
      refine ev_isub (pc := 16) dX12_comesOut_16 ?_
      refine ev_iald (pc := 17) dX12_comesOut_17 (by decide) rfl hb.1 ?_
      replace hb := hb.2
      refine ev_bipush (pc := 18) (v := 6) dX12_comesOut_18 (by decide) ?_
      have hF_20 := hb
      refine ev_icmp_eq (pc := 20) (tgt := 92) dX12_comesOut_20 (by decide) (fun c_20 => ?_) (fun c_20 => ?_)
      · try simp only [if_pos c_20] at h0
        try simp only [if_pos c_20] at h1
        subst h0
        subst h1
        exact ev_loc hE cw_le0
      · have hb := hF_20 c_20
        try simp only [if_neg c_20] at h0
        try simp only [if_neg c_20] at h1
        refine ev_iload_n (pc := 23) dX12_comesOut_23 rfl ?_
        obtain ⟨hT_24, hF_24⟩ := hb
        refine ev_if_eq (pc := 24) (tgt := 43) dX12_comesOut_24 (by decide) (fun c_24 => ?_) (fun c_24 => ?_)
        · have hb := hT_24 c_24
          try simp only [if_pos c_24] at h0
          try simp only [if_pos c_24] at h1
          refine ev_aload_n (pc := 43) dX12_comesOut_43 rfl ?_
          refine ev_dup (pc := 44) dX12_comesOut_44 rfl ?_
          refine tv_geti (pc := 45) dX12_comesOut_45 fl_X12_270 (by decide) rfl rfl ?_
          refine ev_iconst (pc := 48) (v := 1) dX12_comesOut_48 (by decide) ?_
          refine ev_isub (pc := 49) dX12_comesOut_49 ?_
          refine tw_puti (pc := 50) (I2 := (qI50_X12_comesOut_68 n I A J t x1 I0 A0)) dX12_comesOut_50 fp_X12_270 (by decide) rfl rfl rfl ?_
          refine ev_aload_n (pc := 53) dX12_comesOut_53 rfl ?_
          refine tv_getr (pc := 54) (d := 88) dX12_comesOut_54 fl_X12_77 (by decide) rfl rfl ?_
          refine ev_aload_n (pc := 57) dX12_comesOut_57 rfl ?_
          refine tv_geti (pc := 58) dX12_comesOut_58 fl_X12_270 (by decide) rfl rfl ?_
          refine ev_iald (pc := 61) dX12_comesOut_61 (by decide) rfl hb.1 ?_
          replace hb := hb.2
          refine ev_is (y := (q62_X12_comesOut_68 n I A J t x1 I0 A0)) rfl ?_
          refine ev_istore_2 (pc := 62) dX12_comesOut_62 (by decide) rfl ?_
          refine ev_aload_n (pc := 63) dX12_comesOut_63 rfl ?_
          refine ev_iload_n (pc := 64) dX12_comesOut_64 rfl ?_
          refine ev_bipush (pc := 65) (v := 8) dX12_comesOut_65 (by decide) ?_
          refine ev_cut (pj := 85) (Lj := [some (.ref (cw_z g + 68)), some (.int x1), some (.int (q62_X12_comesOut_68 n I A J t x1 I0 A0))]) (stj := [(.int (qs1m67_X12_comesOut_68 n I A J t x1 I0 A0)), (.ref (cw_z g + 68))]) (σj := hp g (qI50_X12_comesOut_68 n I A J t x1 I0 A0) A0 J t) ?_ (fun hJ_67 => ?_)
          rotate_left
          · refine ev_icmp_ne (pc := 67) (tgt := 74) dX12_comesOut_67 (by decide) (fun c_67 => ?_) (fun c_67 => ?_)
            · refine ev_iload_n (pc := 74) dX12_comesOut_74 rfl ?_
              refine ev_bipush (pc := 75) (v := 9) dX12_comesOut_75 (by decide) ?_
              refine ev_cut (pj := 85) (Lj := [some (.ref (cw_z g + 68)), some (.int x1), some (.int (q62_X12_comesOut_68 n I A J t x1 I0 A0))]) (stj := [(.int (qs1m77_X12_comesOut_68 n I A J t x1 I0 A0)), (.ref (cw_z g + 68))]) (σj := hp g (qI50_X12_comesOut_68 n I A J t x1 I0 A0) A0 J t) ?_ (fun hJ_77 => ?_)
              rotate_left
              · refine ev_icmp_ne (pc := 77) (tgt := 84) dX12_comesOut_77 (by decide) (fun c_77 => ?_) (fun c_77 => ?_)
                · refine ev_iconst (pc := 84) (v := 4) dX12_comesOut_84 (by decide) ?_
                  simp only [qs1m77_X12_comesOut_68, if_neg c_77] at hJ_77
                  exact ev_loc hJ_77 cw_le0
                · refine ev_iconst (pc := 80) (v := 3) dX12_comesOut_80 (by decide) ?_
                  refine ev_goto (pc := 81) (tgt := 85) dX12_comesOut_81 (by decide) ?_
                  simp only [qs1m77_X12_comesOut_68, if_pos c_77] at hJ_77
                  exact ev_loc hJ_77 cw_le0
              simp only [qs1m67_X12_comesOut_68, if_neg c_67] at hJ_67
              exact ev_loc hJ_67 cw_le0
            · refine ev_iconst (pc := 70) (v := 2) dX12_comesOut_70 (by decide) ?_
              refine ev_goto (pc := 71) (tgt := 85) dX12_comesOut_71 (by decide) ?_
              simp only [qs1m67_X12_comesOut_68, if_pos c_67] at hJ_67
              exact ev_loc hJ_67 cw_le0
          refine ev_iconst (pc := 85) (v := 0) dX12_comesOut_85 (by decide) ?_
          refine ev_Vv (pc := 86) dX12_comesOut_86 lk_X12_273 cd_X12_emit ar_X12_emit ⟨by decide, rfl, rfl⟩ (cv_X12_emit_68 g n (qI50_X12_comesOut_68 n I A J t x1 I0 A0) A0 J t (qs1m67_X12_comesOut_68 n I A J t x1 I0 A0) 0 hb.1) (show 68 < 120 by decide) rfl rfl rfl rfl (Nat.le_of_ble_eq_true rfl) ⟨by decide, by decide⟩ ?_
          replace hb := hb.2
          refine ev_goto (pc := 89) (tgt := 0) dX12_comesOut_89 (by decide) ?_
          exact ev_loc (ih (pI_X12_emit_68 n (qI50_X12_comesOut_68 n I A J t x1 I0 A0) A0 J t (qs1m67_X12_comesOut_68 n I A J t x1 I0 A0) 0) (pA_X12_emit_68 n (qI50_X12_comesOut_68 n I A J t x1 I0 A0) A0 J t (qs1m67_X12_comesOut_68 n I A J t x1 I0 A0) 0) w0 w1 hb h0 h1 hE) (cw_leS (cw_leS (cw_leN cw_le0)))
        · have hb := hF_24 c_24
          try simp only [if_neg c_24] at h0
          try simp only [if_neg c_24] at h1
          refine ev_aload_n (pc := 27) dX12_comesOut_27 rfl ?_
          refine tv_getr (pc := 28) (d := 88) dX12_comesOut_28 fl_X12_77 (by decide) rfl rfl ?_
          refine ev_aload_n (pc := 31) dX12_comesOut_31 rfl ?_
          refine tv_geti (pc := 32) dX12_comesOut_32 fl_X12_270 (by decide) rfl rfl ?_
          refine ev_iconst (pc := 35) (v := 1) dX12_comesOut_35 (by decide) ?_
          refine ev_isub (pc := 36) dX12_comesOut_36 ?_
          refine ev_iald (pc := 37) dX12_comesOut_37 (by decide) rfl hb.1 ?_
          replace hb := hb.2
          refine ev_bipush (pc := 38) (v := 10) dX12_comesOut_38 (by decide) ?_
          have hF_40 := hb
          refine ev_icmp_ne (pc := 40) (tgt := 92) dX12_comesOut_40 (by decide) (fun c_40 => ?_) (fun c_40 => ?_)
          · try simp only [if_neg c_40] at h0
            try simp only [if_neg c_40] at h1
            subst h0
            subst h1
            exact ev_loc hE cw_le0
          · have hb := hF_40 c_40
            try simp only [if_pos c_40] at h0
            try simp only [if_pos c_40] at h1
            refine ev_aload_n (pc := 43) dX12_comesOut_43 rfl ?_
            refine ev_dup (pc := 44) dX12_comesOut_44 rfl ?_
            refine tv_geti (pc := 45) dX12_comesOut_45 fl_X12_270 (by decide) rfl rfl ?_
            refine ev_iconst (pc := 48) (v := 1) dX12_comesOut_48 (by decide) ?_
            refine ev_isub (pc := 49) dX12_comesOut_49 ?_
            refine tw_puti (pc := 50) (I2 := (qI50_X12_comesOut_68 n I A J t x1 I0 A0)) dX12_comesOut_50 fp_X12_270 (by decide) rfl rfl rfl ?_
            refine ev_aload_n (pc := 53) dX12_comesOut_53 rfl ?_
            refine tv_getr (pc := 54) (d := 88) dX12_comesOut_54 fl_X12_77 (by decide) rfl rfl ?_
            refine ev_aload_n (pc := 57) dX12_comesOut_57 rfl ?_
            refine tv_geti (pc := 58) dX12_comesOut_58 fl_X12_270 (by decide) rfl rfl ?_
            refine ev_iald (pc := 61) dX12_comesOut_61 (by decide) rfl hb.1 ?_
            replace hb := hb.2
            refine ev_is (y := (q62_X12_comesOut_68 n I A J t x1 I0 A0)) rfl ?_
            refine ev_istore_2 (pc := 62) dX12_comesOut_62 (by decide) rfl ?_
            refine ev_aload_n (pc := 63) dX12_comesOut_63 rfl ?_
            refine ev_iload_n (pc := 64) dX12_comesOut_64 rfl ?_
            refine ev_bipush (pc := 65) (v := 8) dX12_comesOut_65 (by decide) ?_
            refine ev_cut (pj := 85) (Lj := [some (.ref (cw_z g + 68)), some (.int x1), some (.int (q62_X12_comesOut_68 n I A J t x1 I0 A0))]) (stj := [(.int (qs1m67_X12_comesOut_68 n I A J t x1 I0 A0)), (.ref (cw_z g + 68))]) (σj := hp g (qI50_X12_comesOut_68 n I A J t x1 I0 A0) A0 J t) ?_ (fun hJ_67 => ?_)
            rotate_left
            · refine ev_icmp_ne (pc := 67) (tgt := 74) dX12_comesOut_67 (by decide) (fun c_67 => ?_) (fun c_67 => ?_)
              · refine ev_iload_n (pc := 74) dX12_comesOut_74 rfl ?_
                refine ev_bipush (pc := 75) (v := 9) dX12_comesOut_75 (by decide) ?_
                refine ev_cut (pj := 85) (Lj := [some (.ref (cw_z g + 68)), some (.int x1), some (.int (q62_X12_comesOut_68 n I A J t x1 I0 A0))]) (stj := [(.int (qs1m77_X12_comesOut_68 n I A J t x1 I0 A0)), (.ref (cw_z g + 68))]) (σj := hp g (qI50_X12_comesOut_68 n I A J t x1 I0 A0) A0 J t) ?_ (fun hJ_77 => ?_)
                rotate_left
                · refine ev_icmp_ne (pc := 77) (tgt := 84) dX12_comesOut_77 (by decide) (fun c_77 => ?_) (fun c_77 => ?_)
                  · refine ev_iconst (pc := 84) (v := 4) dX12_comesOut_84 (by decide) ?_
                    simp only [qs1m77_X12_comesOut_68, if_neg c_77] at hJ_77
                    exact ev_loc hJ_77 cw_le0
                  · refine ev_iconst (pc := 80) (v := 3) dX12_comesOut_80 (by decide) ?_
                    refine ev_goto (pc := 81) (tgt := 85) dX12_comesOut_81 (by decide) ?_
                    simp only [qs1m77_X12_comesOut_68, if_pos c_77] at hJ_77
                    exact ev_loc hJ_77 cw_le0
                simp only [qs1m67_X12_comesOut_68, if_neg c_67] at hJ_67
                exact ev_loc hJ_67 cw_le0
              · refine ev_iconst (pc := 70) (v := 2) dX12_comesOut_70 (by decide) ?_
                refine ev_goto (pc := 71) (tgt := 85) dX12_comesOut_71 (by decide) ?_
                simp only [qs1m67_X12_comesOut_68, if_pos c_67] at hJ_67
                exact ev_loc hJ_67 cw_le0
            refine ev_iconst (pc := 85) (v := 0) dX12_comesOut_85 (by decide) ?_
            refine ev_Vv (pc := 86) dX12_comesOut_86 lk_X12_273 cd_X12_emit ar_X12_emit ⟨by decide, rfl, rfl⟩ (cv_X12_emit_68 g n (qI50_X12_comesOut_68 n I A J t x1 I0 A0) A0 J t (qs1m67_X12_comesOut_68 n I A J t x1 I0 A0) 0 hb.1) (show 68 < 120 by decide) rfl rfl rfl rfl (Nat.le_of_ble_eq_true rfl) ⟨by decide, by decide⟩ ?_
            replace hb := hb.2
            refine ev_goto (pc := 89) (tgt := 0) dX12_comesOut_89 (by decide) ?_
            exact ev_loc (ih (pI_X12_emit_68 n (qI50_X12_comesOut_68 n I A J t x1 I0 A0) A0 J t (qs1m67_X12_comesOut_68 n I A J t x1 I0 A0) 0) (pA_X12_emit_68 n (qI50_X12_comesOut_68 n I A J t x1 I0 A0) A0 J t (qs1m67_X12_comesOut_68 n I A J t x1 I0 A0) 0) w0 w1 hb h0 h1 hE) (cw_leS (cw_leS (cw_leN cw_le0)))

set_option maxRecDepth 100000 in
set_option maxHeartbeats 4000000 in
theorem cv_X12_comesOut_68 (g : cw_G) (n : Nat) (I : Nat → Nat → Int32) (A : Nat → Nat → Int32) (J : Nat → Nat → Int64) (t : Bool × Bool) (x1 : Int32) (hb : pb_X12_comesOut_68 n I A J t x1) : Cd g mX12_comesOut [(.ref (cw_z g + 68)), (.int x1)] (hp g I A J t) none (hp g (pI_X12_comesOut_68 n I A J t x1) (pA_X12_comesOut_68 n I A J t x1) J t) := by
  unfold pb_X12_comesOut_68 at hb
  unfold pI_X12_comesOut_68 pA_X12_comesOut_68
  refine Cd.of rfl (Nat.le_of_ble_eq_true rfl) (ev_gen (fun Q hQ => ?_))
  refine lt_X12_comesOut_68_0 g n I A J t x1 n I A (qIw0_X12_comesOut_68 n I A J t x1) (qAw0_X12_comesOut_68 n I A J t x1) hb rfl rfl ?_
  exact ev_vret (pc := 92) dX12_comesOut_92 rfl (by decide) (by decide) (hQ _ _ ⟨rfl, rfl⟩)

def px_X12_place_68 (n : Nat) (I : Nat → Nat → Int32) (A : Nat → Nat → Int32) (J : Nat → Nat → Int64) (t : Bool × Bool) : Int32 := (I 68 17)
set_option maxRecDepth 100000 in
set_option maxHeartbeats 4000000 in
theorem cv_X12_place_68 (g : cw_G) (n : Nat) (I : Nat → Nat → Int32) (A : Nat → Nat → Int32) (J : Nat → Nat → Int64) (t : Bool × Bool) : Cd g mX12_place [(.ref (cw_z g + 68))] (hp g I A J t) (some (.int (px_X12_place_68 n I A J t))) (hp g I A J t) := by
  unfold px_X12_place_68
  refine Cd.of rfl (Nat.le_of_ble_eq_true rfl) (ev_gen (fun Q hQ => ?_))
  refine ev_aload_n (pc := 0) dX12_place_0 rfl ?_
  refine tv_geti (pc := 1) dX12_place_1 fl_X12_37 (by decide) rfl rfl ?_
  exact ev_iret (pc := 4) dX12_place_4 rfl (by decide) (by decide) (hQ _ _ ⟨rfl, rfl⟩)
