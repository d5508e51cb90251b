def qs0m9_X12_isLand_68 (n : Nat) (I : Nat → Nat → Int32) (A : Nat → Nat → Int32) (J : Nat → Nat → Int64) (t : Bool × Bool) (x1 : Int32) : Int32 := if (I 68 35) ≤ x1 then 0 else 1
def qs0m1_X12_isLand_68 (n : Nat) (I : Nat → Nat → Int32) (A : Nat → Nat → Int32) (J : Nat → Nat → Int64) (t : Bool × Bool) (x1 : Int32) : Int32 := if x1 < 0 then 0 else (qs0m9_X12_isLand_68 n I A J t x1)
def px_X12_isLand_68 (n : Nat) (I : Nat → Nat → Int32) (A : Nat → Nat → Int32) (J : Nat → Nat → Int64) (t : Bool × Bool) (x1 : Int32) : Int32 := (qs0m1_X12_isLand_68 n I A J t x1)
set_option maxRecDepth 100000 in
set_option maxHeartbeats 4000000 in
theorem cv_X12_isLand_68 (g : cw_G) (n : Nat) (I : Nat → Nat → Int32) (A : Nat → Nat → Int32) (J : Nat → Nat → Int64) (t : Bool × Bool) (x1 : Int32) : Cd g mX12_isLand [(.ref (cw_z g + 68)), (.int x1)] (hp g I A J t) (some (.int (px_X12_isLand_68 n I A J t x1))) (hp g I A J t) := by
  unfold px_X12_isLand_68
  refine Cd.of rfl (Nat.le_of_ble_eq_true rfl) (ev_gen (fun Q hQ => ?_))
  refine ev_iload_n (pc := 0) dX12_isLand_0 rfl ?_
  refine ev_cut (pj := 17) (Lj := [some (.ref (cw_z g + 68)), some (.int x1)]) (stj := [(.int (qs0m1_X12_isLand_68 n I A J t x1))]) (σj := hp g I A J t) ?_ (fun hJ_1 => ?_)
  rotate_left
  · refine ev_if_lt (pc := 1) (tgt := 16) dX12_isLand_1 (by decide) (fun c_1 => ?_) (fun c_1 => ?_)
    · refine ev_iconst (pc := 16) (v := 0) dX12_isLand_16 (by decide) ?_
      simp only [qs0m1_X12_isLand_68, if_pos c_1] at hJ_1
      exact ev_loc hJ_1 cw_le0
    · refine ev_iload_n (pc := 4) dX12_isLand_4 rfl ?_
      refine ev_aload_n (pc := 5) dX12_isLand_5 rfl ?_
      refine tv_geti (pc := 6) dX12_isLand_6 fl_X12_280 (by decide) rfl rfl ?_
      refine ev_cut (pj := 17) (Lj := [some (.ref (cw_z g + 68)), some (.int x1)]) (stj := [(.int (qs0m9_X12_isLand_68 n I A J t x1))]) (σj := hp g I A J t) ?_ (fun hJ_9 => ?_)
      rotate_left
      · refine ev_icmp_ge (pc := 9) (tgt := 16) dX12_isLand_9 (by decide) (fun c_9 => ?_) (fun c_9 => ?_)
        · refine ev_iconst (pc := 16) (v := 0) dX12_isLand_16 (by decide) ?_
          simp only [qs0m9_X12_isLand_68, if_pos c_9] at hJ_9
          exact ev_loc hJ_9 cw_le0
        · refine ev_iconst (pc := 12) (v := 1) dX12_isLand_12 (by decide) ?_
          refine ev_goto (pc := 13) (tgt := 17) dX12_isLand_13 (by decide) ?_
          simp only [qs0m9_X12_isLand_68, if_neg c_9] at hJ_9
          exact ev_loc hJ_9 cw_le0
      simp only [qs0m1_X12_isLand_68, if_neg c_1] at hJ_1
      exact ev_loc hJ_1 cw_le0
  exact ev_zret (pc := 17) dX12_isLand_17 rfl (cw_nz (cw_ite (Or.inl rfl) (cw_ite (Or.inl rfl) (Or.inr rfl)))) (by decide) (by decide) (hQ _ _ ⟨rfl, rfl⟩)

theorem z1_X12_isLand_68 (n : Nat) (I : Nat → Nat → Int32) (A : Nat → Nat → Int32) (J : Nat → Nat → Int64) (t : Bool × Bool) (x1 : Int32) : px_X12_isLand_68 n I A J t x1 = 0 ∨ px_X12_isLand_68 n I A J t x1 = 1 := (cw_ite (Or.inl rfl) (cw_ite (Or.inl rfl) (Or.inr rfl)))

def qs0m9_X12_isSite_68 (n : Nat) (I : Nat → Nat → Int32) (A : Nat → Nat → Int32) (J : Nat → Nat → Int64) (t : Bool × Bool) (x1 : Int32) : Int32 := if (I 68 36) ≤ x1 then 0 else 1
def qs0m1_X12_isSite_68 (n : Nat) (I : Nat → Nat → Int32) (A : Nat → Nat → Int32) (J : Nat → Nat → Int64) (t : Bool × Bool) (x1 : Int32) : Int32 := if x1 < 0 then 0 else (qs0m9_X12_isSite_68 n I A J t x1)
def px_X12_isSite_68 (n : Nat) (I : Nat → Nat → Int32) (A : Nat → Nat → Int32) (J : Nat → Nat → Int64) (t : Bool × Bool) (x1 : Int32) : Int32 := (qs0m1_X12_isSite_68 n I A J t x1)
set_option maxRecDepth 100000 in
set_option maxHeartbeats 4000000 in
theorem cv_X12_isSite_68 (g : cw_G) (n : Nat) (I : Nat → Nat → Int32) (A : Nat → Nat → Int32) (J : Nat → Nat → Int64) (t : Bool × Bool) (x1 : Int32) : Cd g mX12_isSite [(.ref (cw_z g + 68)), (.int x1)] (hp g I A J t) (some (.int (px_X12_isSite_68 n I A J t x1))) (hp g I A J t) := by
  unfold px_X12_isSite_68
  refine Cd.of rfl (Nat.le_of_ble_eq_true rfl) (ev_gen (fun Q hQ => ?_))
  refine ev_iload_n (pc := 0) dX12_isSite_0 rfl ?_
  refine ev_cut (pj := 17) (Lj := [some (.ref (cw_z g + 68)), some (.int x1)]) (stj := [(.int (qs0m1_X12_isSite_68 n I A J t x1))]) (σj := hp g I A J t) ?_ (fun hJ_1 => ?_)
  rotate_left
  · refine ev_if_lt (pc := 1) (tgt := 16) dX12_isSite_1 (by decide) (fun c_1 => ?_) (fun c_1 => ?_)
    · refine ev_iconst (pc := 16) (v := 0) dX12_isSite_16 (by decide) ?_
      simp only [qs0m1_X12_isSite_68, if_pos c_1] at hJ_1
      exact ev_loc hJ_1 cw_le0
    · refine ev_iload_n (pc := 4) dX12_isSite_4 rfl ?_
      refine ev_aload_n (pc := 5) dX12_isSite_5 rfl ?_
      refine tv_geti (pc := 6) dX12_isSite_6 fl_X12_283 (by decide) rfl rfl ?_
      refine ev_cut (pj := 17) (Lj := [some (.ref (cw_z g + 68)), some (.int x1)]) (stj := [(.int (qs0m9_X12_isSite_68 n I A J t x1))]) (σj := hp g I A J t) ?_ (fun hJ_9 => ?_)
      rotate_left
      · refine ev_icmp_ge (pc := 9) (tgt := 16) dX12_isSite_9 (by decide) (fun c_9 => ?_) (fun c_9 => ?_)
        · refine ev_iconst (pc := 16) (v := 0) dX12_isSite_16 (by decide) ?_
          simp only [qs0m9_X12_isSite_68, if_pos c_9] at hJ_9
          exact ev_loc hJ_9 cw_le0
        · refine ev_iconst (pc := 12) (v := 1) dX12_isSite_12 (by decide) ?_
          refine ev_goto (pc := 13) (tgt := 17) dX12_isSite_13 (by decide) ?_
          simp only [qs0m9_X12_isSite_68, if_neg c_9] at hJ_9
          exact ev_loc hJ_9 cw_le0
      simp only [qs0m1_X12_isSite_68, if_neg c_1] at hJ_1
      exact ev_loc hJ_1 cw_le0
  exact ev_zret (pc := 17) dX12_isSite_17 rfl (cw_nz (cw_ite (Or.inl rfl) (cw_ite (Or.inl rfl) (Or.inr rfl)))) (by decide) (by decide) (hQ _ _ ⟨rfl, rfl⟩)

theorem z1_X12_isSite_68 (n : Nat) (I : Nat → Nat → Int32) (A : Nat → Nat → Int32) (J : Nat → Nat → Int64) (t : Bool × Bool) (x1 : Int32) : px_X12_isSite_68 n I A J t x1 = 0 ∨ px_X12_isSite_68 n I A J t x1 = 1 := (cw_ite (Or.inl rfl) (cw_ite (Or.inl rfl) (Or.inr rfl)))

def qs0m9_X12_isKnown_68 (n : Nat) (I : Nat → Nat → Int32) (A : Nat → Nat → Int32) (J : Nat → Nat → Int64) (t : Bool × Bool) (x1 : Int32) : Int32 := if (I 68 50) < x1 then 0 else 1
def qs0m1_X12_isKnown_68 (n : Nat) (I : Nat → Nat → Int32) (A : Nat → Nat → Int32) (J : Nat → Nat → Int64) (t : Bool × Bool) (x1 : Int32) : Int32 := if x1 < 0 then 0 else (qs0m9_X12_isKnown_68 n I A J t x1)
def px_X12_isKnown_68 (n : Nat) (I : Nat → Nat → Int32) (A : Nat → Nat → Int32) (J : Nat → Nat → Int64) (t : Bool × Bool) (x1 : Int32) : Int32 := (qs0m1_X12_isKnown_68 n I A J t x1)
set_option maxRecDepth 100000 in
set_option maxHeartbeats 4000000 in
theorem cv_X12_isKnown_68 (g : cw_G) (n : Nat) (I : Nat → Nat → Int32) (A : Nat → Nat → Int32) (J : Nat → Nat → Int64) (t : Bool × Bool) (x1 : Int32) : Cd g mX12_isKnown [(.ref (cw_z g + 68)), (.int x1)] (hp g I A J t) (some (.int (px_X12_isKnown_68 n I A J t x1))) (hp g I A J t) := by
  unfold px_X12_isKnown_68
  refine Cd.of rfl (Nat.le_of_ble_eq_true rfl) (ev_gen (fun Q hQ => ?_))
  refine ev_iload_n (pc := 0) dX12_isKnown_0 rfl ?_
  refine ev_cut (pj := 17) (Lj := [some (.ref (cw_z g + 68)), some (.int x1)]) (stj := [(.int (qs0m1_X12_isKnown_68 n I A J t x1))]) (σj := hp g I A J t) ?_ (fun hJ_1 => ?_)
  rotate_left
  · refine ev_if_lt (pc := 1) (tgt := 16) dX12_isKnown_1 (by decide) (fun c_1 => ?_) (fun c_1 => ?_)
    · refine ev_iconst (pc := 16) (v := 0) dX12_isKnown_16 (by decide) ?_
      simp only [qs0m1_X12_isKnown_68, if_pos c_1] at hJ_1
      exact ev_loc hJ_1 cw_le0
    · refine ev_iload_n (pc := 4) dX12_isKnown_4 rfl ?_
      refine ev_aload_n (pc := 5) dX12_isKnown_5 rfl ?_
      refine tv_geti (pc := 6) dX12_isKnown_6 fl_X12_286 (by decide) rfl rfl ?_
      refine ev_cut (pj := 17) (Lj := [some (.ref (cw_z g + 68)), some (.int x1)]) (stj := [(.int (qs0m9_X12_isKnown_68 n I A J t x1))]) (σj := hp g I A J t) ?_ (fun hJ_9 => ?_)
      rotate_left
      · refine ev_icmp_gt (pc := 9) (tgt := 16) dX12_isKnown_9 (by decide) (fun c_9 => ?_) (fun c_9 => ?_)
        · refine ev_iconst (pc := 16) (v := 0) dX12_isKnown_16 (by decide) ?_
          simp only [qs0m9_X12_isKnown_68, if_pos c_9] at hJ_9
          exact ev_loc hJ_9 cw_le0
        · refine ev_iconst (pc := 12) (v := 1) dX12_isKnown_12 (by decide) ?_
          refine ev_goto (pc := 13) (tgt := 17) dX12_isKnown_13 (by decide) ?_
          simp only [qs0m9_X12_isKnown_68, if_neg c_9] at hJ_9
          exact ev_loc hJ_9 cw_le0
      simp only [qs0m1_X12_isKnown_68, if_neg c_1] at hJ_1
      exact ev_loc hJ_1 cw_le0
  exact ev_zret (pc := 17) dX12_isKnown_17 rfl (cw_nz (cw_ite (Or.inl rfl) (cw_ite (Or.inl rfl) (Or.inr rfl)))) (by decide) (by decide) (hQ _ _ ⟨rfl, rfl⟩)

theorem z1_X12_isKnown_68 (n : Nat) (I : Nat → Nat → Int32) (A : Nat → Nat → Int32) (J : Nat → Nat → Int64) (t : Bool × Bool) (x1 : Int32) : px_X12_isKnown_68 n I A J t x1 = 0 ∨ px_X12_isKnown_68 n I A J t x1 = 1 := (cw_ite (Or.inl rfl) (cw_ite (Or.inl rfl) (Or.inr rfl)))

def qs0m34_X12_ground_68 (n : Nat) (I : Nat → Nat → Int32) (A : Nat → Nat → Int32) (J : Nat → Nat → Int64) (t : Bool × Bool) (x1 : Int32) (x2 : Int32) (x3 : Int32) : Int32 := if x3 ≤ 0 then 0 else 1
def q90_X12_ground_68 (n : Nat) (I : Nat → Nat → Int32) (A : Nat → Nat → Int32) (J : Nat → Nat → Int64) (t : Bool × Bool) (x1 : Int32) (x2 : Int32) (x3 : Int32) : Int32 := ((8 : Int32) + (I 68 36))
def qA99_X12_ground_68 (n : Nat) (I : Nat → Nat → Int32) (A : Nat → Nat → Int32) (J : Nat → Nat → Int64) (t : Bool × Bool) (x1 : Int32) (x2 : Int32) (x3 : Int32) : Nat → Nat → Int32 := cw_u A 89 ((q90_X12_ground_68 n I A J t x1 x2 x3)).toNatClampNeg x1
def qA107_X12_ground_68 (n : Nat) (I : Nat → Nat → Int32) (A : Nat → Nat → Int32) (J : Nat → Nat → Int64) (t : Bool × Bool) (x1 : Int32) (x2 : Int32) (x3 : Int32) : Nat → Nat → Int32 := cw_u (qA99_X12_ground_68 n I A J t x1 x2 x3) 90 ((q90_X12_ground_68 n I A J t x1 x2 x3)).toNatClampNeg x2
def qI147_X12_ground_68 (n : Nat) (I : Nat → Nat → Int32) (A : Nat → Nat → Int32) (J : Nat → Nat → Int64) (t : Bool × Bool) (x1 : Int32) (x2 : Int32) (x3 : Int32) : Nat → Nat → Int32 := cw_u I 68 36 ((I 68 36) + 1)
def q90_1_X12_ground_68 (n : Nat) (I : Nat → Nat → Int32) (A : Nat → Nat → Int32) (J : Nat → Nat → Int64) (t : Bool × Bool) (x1 : Int32) (x2 : Int32) (x3 : Int32) : Int32 := (I 68 35)
def qA99_2_X12_ground_68 (n : Nat) (I : Nat → Nat → Int32) (A : Nat → Nat → Int32) (J : Nat → Nat → Int64) (t : Bool × Bool) (x1 : Int32) (x2 : Int32) (x3 : Int32) : Nat → Nat → Int32 := cw_u A 89 ((q90_1_X12_ground_68 n I A J t x1 x2 x3)).toNatClampNeg x1
def qA107_3_X12_ground_68 (n : Nat) (I : Nat → Nat → Int32) (A : Nat → Nat → Int32) (J : Nat → Nat → Int64) (t : Bool × Bool) (x1 : Int32) (x2 : Int32) (x3 : Int32) : Nat → Nat → Int32 := cw_u (qA99_2_X12_ground_68 n I A J t x1 x2 x3) 90 ((q90_1_X12_ground_68 n I A J t x1 x2 x3)).toNatClampNeg x2
def qA122_X12_ground_68 (n : Nat) (I : Nat → Nat → Int32) (A : Nat → Nat → Int32) (J : Nat → Nat → Int64) (t : Bool × Bool) (x1 : Int32) (x2 : Int32) (x3 : Int32) : Nat → Nat → Int32 := cw_u (qA107_3_X12_ground_68 n I A J t x1 x2 x3) 91 ((I 68 35)).toNatClampNeg x3
def qI130_X12_ground_68 (n : Nat) (I : Nat → Nat → Int32) (A : Nat → Nat → Int32) (J : Nat → Nat → Int64) (t : Bool × Bool) (x1 : Int32) (x2 : Int32) (x3 : Int32) : Nat → Nat → Int32 := cw_u I 68 35 ((I 68 35) + 1)
def pb_X12_ground_68 (n : Nat) (I : Nat → Nat → Int32) (A : Nat → Nat → Int32) (J : Nat → Nat → Int64) (t : Bool × Bool) (x1 : Int32) (x2 : Int32) (x3 : Int32) : Prop := (¬ x1 < 0 → (¬ 23 < x1 → (¬ x2 < 0 → (¬ 6 < x2 → (¬ x3 < 0 → (x3 ≤ 10000 → ((qs0m34_X12_ground_68 n I A J t x1 x2 x3) = 0 → (¬ (I 68 36) = 4 → vp_in (q90_X12_ground_68 n I A J t x1 x2 x3) 12 ∧ vp_in (q90_X12_ground_68 n I A J t x1 x2 x3) 12)) ∧ (¬ (qs0m34_X12_ground_68 n I A J t x1 x2 x3) = 0 → (¬ (I 68 35) = 8 → vp_in (q90_1_X12_ground_68 n I A J t x1 x2 x3) 12 ∧ vp_in (q90_1_X12_ground_68 n I A J t x1 x2 x3) 12 ∧ vp_in (I 68 35) 8))))))))
def px_X12_ground_68 (n : Nat) (I : Nat → Nat → Int32) (A : Nat → Nat → Int32) (J : Nat → Nat → Int64) (t : Bool × Bool) (x1 : Int32) (x2 : Int32) (x3 : Int32) : Int32 := (if x1 < 0 then (-1) else (if 23 < x1 then (-1) else (if x2 < 0 then (-1) else (if 6 < x2 then (-1) else (if x3 < 0 then (-1) else (if x3 ≤ 10000 then (if (qs0m34_X12_ground_68 n I A J t x1 x2 x3) = 0 then (if (I 68 36) = 4 then (-1) else (((qI147_X12_ground_68 n I A J t x1 x2 x3) 68 36) - 1)) else (if (I 68 35) = 8 then (-1) else (((qI130_X12_ground_68 n I A J t x1 x2 x3) 68 35) - 1))) else (-1)))))))
def pI_X12_ground_68 (n : Nat) (I : Nat → Nat → Int32) (A : Nat → Nat → Int32) (J : Nat → Nat → Int64) (t : Bool × Bool) (x1 : Int32) (x2 : Int32) (x3 : Int32) : Nat → Nat → Int32 := (if x1 < 0 then I else (if 23 < x1 then I else (if x2 < 0 then I else (if 6 < x2 then I else (if x3 < 0 then I else (if x3 ≤ 10000 then (if (qs0m34_X12_ground_68 n I A J t x1 x2 x3) = 0 then (if (I 68 36) = 4 then I else (qI147_X12_ground_68 n I A J t x1 x2 x3)) else (if (I 68 35) = 8 then I else (qI130_X12_ground_68 n I A J t x1 x2 x3))) else I))))))
def pA_X12_ground_68 (n : Nat) (I : Nat → Nat → Int32) (A : Nat → Nat → Int32) (J : Nat → Nat → Int64) (t : Bool × Bool) (x1 : Int32) (x2 : Int32) (x3 : Int32) : Nat → Nat → Int32 := (if x1 < 0 then A else (if 23 < x1 then A else (if x2 < 0 then A else (if 6 < x2 then A else (if x3 < 0 then A else (if x3 ≤ 10000 then (if (qs0m34_X12_ground_68 n I A J t x1 x2 x3) = 0 then (if (I 68 36) = 4 then A else (qA107_X12_ground_68 n I A J t x1 x2 x3)) else (if (I 68 35) = 8 then A else (qA122_X12_ground_68 n I A J t x1 x2 x3))) else A))))))
set_option maxRecDepth 100000 in
set_option maxHeartbeats 4000000 in
theorem cv_X12_ground_68 (g : cw_G) (n : Nat) (I : Nat → Nat → Int32) (A : Nat → Nat → Int32) (J : Nat → Nat → Int64) (t : Bool × Bool) (x1 : Int32) (x2 : Int32) (x3 : Int32) (hb : pb_X12_ground_68 n I A J t x1 x2 x3) : Cd g mX12_ground [(.ref (cw_z g + 68)), (.int x1), (.int x2), (.int x3)] (hp g I A J t) (some (.int (px_X12_ground_68 n I A J t x1 x2 x3))) (hp g (pI_X12_ground_68 n I A J t x1 x2 x3) (pA_X12_ground_68 n I A J t x1 x2 x3) J t) := by
  unfold pb_X12_ground_68 at hb
  unfold px_X12_ground_68 pI_X12_ground_68 pA_X12_ground_68
  refine Cd.of rfl (Nat.le_of_ble_eq_true rfl) (ev_gen (fun Q hQ => ?_))
  refine ev_iload_n (pc := 0) dX12_ground_0 rfl ?_
  have hF_1 := hb
  refine ev_if_lt (pc := 1) (tgt := 31) dX12_ground_1 (by decide) (fun c_1 => ?_) (fun c_1 => ?_)
  · try simp only [if_pos c_1] at hQ
    refine ev_iconst (pc := 31) (v := (-1)) dX12_ground_31 (by decide) ?_
    exact ev_iret (pc := 32) dX12_ground_32 rfl (by decide) (by decide) (hQ _ _ ⟨rfl, rfl⟩)
  · have hb := hF_1 c_1
    try simp only [if_neg c_1] at hQ
    refine ev_iload_n (pc := 4) dX12_ground_4 rfl ?_
    refine ev_bipush (pc := 5) (v := 23) dX12_ground_5 (by decide) ?_
    have hF_7 := hb
    refine ev_icmp_gt (pc := 7) (tgt := 31) dX12_ground_7 (by decide) (fun c_7 => ?_) (fun c_7 => ?_)
    · try simp only [if_pos c_7] at hQ
      refine ev_iconst (pc := 31) (v := (-1)) dX12_ground_31 (by decide) ?_
      exact ev_iret (pc := 32) dX12_ground_32 rfl (by decide) (by decide) (hQ _ _ ⟨rfl, rfl⟩)
    · have hb := hF_7 c_7
      try simp only [if_neg c_7] at hQ
      refine ev_iload_n (pc := 10) dX12_ground_10 rfl ?_
      have hF_11 := hb
      refine ev_if_lt (pc := 11) (tgt := 31) dX12_ground_11 (by decide) (fun c_11 => ?_) (fun c_11 => ?_)
      · try simp only [if_pos c_11] at hQ
        refine ev_iconst (pc := 31) (v := (-1)) dX12_ground_31 (by decide) ?_
        exact ev_iret (pc := 32) dX12_ground_32 rfl (by decide) (by decide) (hQ _ _ ⟨rfl, rfl⟩)
      · have hb := hF_11 c_11
        try simp only [if_neg c_11] at hQ
        refine ev_iload_n (pc := 14) dX12_ground_14 rfl ?_
        refine ev_bipush (pc := 15) (v := 6) dX12_ground_15 (by decide) ?_
        have hF_17 := hb
        refine ev_icmp_gt (pc := 17) (tgt := 31) dX12_ground_17 (by decide) (fun c_17 => ?_) (fun c_17 => ?_)
        · try simp only [if_pos c_17] at hQ
          refine ev_iconst (pc := 31) (v := (-1)) dX12_ground_31 (by decide) ?_
          exact ev_iret (pc := 32) dX12_ground_32 rfl (by decide) (by decide) (hQ _ _ ⟨rfl, rfl⟩)
        · have hb := hF_17 c_17
          try simp only [if_neg c_17] at hQ
          refine ev_iload_n (pc := 20) dX12_ground_20 rfl ?_
          have hF_21 := hb
          refine ev_if_lt (pc := 21) (tgt := 31) dX12_ground_21 (by decide) (fun c_21 => ?_) (fun c_21 => ?_)
          · try simp only [if_pos c_21] at hQ
            refine ev_iconst (pc := 31) (v := (-1)) dX12_ground_31 (by decide) ?_
            exact ev_iret (pc := 32) dX12_ground_32 rfl (by decide) (by decide) (hQ _ _ ⟨rfl, rfl⟩)
          · have hb := hF_21 c_21
            try simp only [if_neg c_21] at hQ
            refine ev_iload_n (pc := 24) dX12_ground_24 rfl ?_
            refine ev_sipush (pc := 25) (v := 10000) dX12_ground_25 (by decide) ?_
            have hT_28 := hb
            refine ev_icmp_le (pc := 28) (tgt := 33) dX12_ground_28 (by decide) (fun c_28 => ?_) (fun c_28 => ?_)
            · have hb := hT_28 c_28
              try simp only [if_pos c_28] at hQ
              refine ev_iload_n (pc := 33) dX12_ground_33 rfl ?_
              refine ev_cut (pj := 42) (Lj := [some (.ref (cw_z g + 68)), some (.int x1), some (.int x2), some (.int x3), none, none]) (stj := [(.int (qs0m34_X12_ground_68 n I A J t x1 x2 x3))]) (σj := hp g I A J t) ?_ (fun hJ_34 => ?_)
              rotate_left
              · refine ev_if_le (pc := 34) (tgt := 41) dX12_ground_34 (by decide) (fun c_34 => ?_) (fun c_34 => ?_)
                · refine ev_iconst (pc := 41) (v := 0) dX12_ground_41 (by decide) ?_
                  simp only [qs0m34_X12_ground_68, if_pos c_34] at hJ_34
                  exact ev_loc hJ_34 cw_le0
                · refine ev_iconst (pc := 37) (v := 1) dX12_ground_37 (by decide) ?_
                  refine ev_goto (pc := 38) (tgt := 42) dX12_ground_38 (by decide) ?_
                  simp only [qs0m34_X12_ground_68, if_neg c_34] at hJ_34
                  exact ev_loc hJ_34 cw_le0
              refine ev_istore_4 (pc := 42) dX12_ground_42 (by decide) rfl ?_
              refine ev_iload (pc := 44) dX12_ground_44 rfl ?_
              obtain ⟨hT_46, hF_46⟩ := hb
              refine ev_if_eq (pc := 46) (tgt := 61) dX12_ground_46 (by decide) (fun c_46 => ?_) (fun c_46 => ?_)
              · have hb := hT_46 c_46
                try simp only [if_pos c_46] at hQ
                refine ev_aload_n (pc := 61) dX12_ground_61 rfl ?_
                refine tv_geti (pc := 62) dX12_ground_62 fl_X12_283 (by decide) rfl rfl ?_
                refine ev_iconst (pc := 65) (v := 4) dX12_ground_65 (by decide) ?_
                have hT_66 := hb
                refine ev_icmp_ne (pc := 66) (tgt := 71) dX12_ground_66 (by decide) (fun c_66 => ?_) (fun c_66 => ?_)
                · have hb := hT_66 c_66
                  try simp only [if_neg c_66] at hQ
                  refine ev_iload (pc := 71) dX12_ground_71 rfl ?_
                  refine ev_if_eq (pc := 73) (tgt := 83) dX12_ground_73 (by decide) (fun c_73 => ?_) (fun c_73 => absurd c_46 c_73)
                  refine ev_bipush (pc := 83) (v := 8) dX12_ground_83 (by decide) ?_
                  refine ev_aload_n (pc := 85) dX12_ground_85 rfl ?_
                  refine tv_geti (pc := 86) dX12_ground_86 fl_X12_283 (by decide) rfl rfl ?_
                  refine ev_iadd (pc := 89) dX12_ground_89 ?_
                  refine ev_is (y := (q90_X12_ground_68 n I A J t x1 x2 x3)) rfl ?_
                  refine ev_istore_5 (pc := 90) dX12_ground_90 (by decide) rfl ?_
                  refine ev_aload_n (pc := 92) dX12_ground_92 rfl ?_
                  refine tv_getr (pc := 93) (d := 89) dX12_ground_93 fl_X12_80 (by decide) rfl rfl ?_
                  refine ev_iload (pc := 96) dX12_ground_96 rfl ?_
                  refine ev_iload_n (pc := 98) dX12_ground_98 rfl ?_
                  refine tw_iast (pc := 99) (A2 := (qA99_X12_ground_68 n I A J t x1 x2 x3)) dX12_ground_99 (by decide) rfl hb.1 rfl ?_
                  replace hb := hb.2
                  refine ev_aload_n (pc := 100) dX12_ground_100 rfl ?_
                  refine tv_getr (pc := 101) (d := 90) dX12_ground_101 fl_X12_83 (by decide) rfl rfl ?_
                  refine ev_iload (pc := 104) dX12_ground_104 rfl ?_
                  refine ev_iload_n (pc := 106) dX12_ground_106 rfl ?_
                  refine tw_iast (pc := 107) (A2 := (qA107_X12_ground_68 n I A J t x1 x2 x3)) dX12_ground_107 (by decide) rfl hb rfl ?_
                  refine ev_iload (pc := 108) dX12_ground_108 rfl ?_
                  refine ev_if_eq (pc := 110) (tgt := 140) dX12_ground_110 (by decide) (fun c_110 => ?_) (fun c_110 => absurd c_46 c_110)
                  refine ev_aload_n (pc := 140) dX12_ground_140 rfl ?_
                  refine ev_dup (pc := 141) dX12_ground_141 rfl ?_
                  refine tv_geti (pc := 142) dX12_ground_142 fl_X12_283 (by decide) rfl rfl ?_
                  refine ev_iconst (pc := 145) (v := 1) dX12_ground_145 (by decide) ?_
                  refine ev_iadd (pc := 146) dX12_ground_146 ?_
                  refine tw_puti (pc := 147) (I2 := (qI147_X12_ground_68 n I A J t x1 x2 x3)) dX12_ground_147 fp_X12_283 (by decide) rfl rfl rfl ?_
                  refine ev_aload_n (pc := 150) dX12_ground_150 rfl ?_
                  refine tv_geti (pc := 151) dX12_ground_151 fl_X12_283 (by decide) rfl rfl ?_
                  refine ev_iconst (pc := 154) (v := 1) dX12_ground_154 (by decide) ?_
                  refine ev_isub (pc := 155) dX12_ground_155 ?_
                  exact ev_iret (pc := 156) dX12_ground_156 rfl (by decide) (by decide) (hQ _ _ ⟨rfl, rfl⟩)
                · try simp only [if_pos c_66] at hQ
                  refine ev_iconst (pc := 69) (v := (-1)) dX12_ground_69 (by decide) ?_
                  exact ev_iret (pc := 70) dX12_ground_70 rfl (by decide) (by decide) (hQ _ _ ⟨rfl, rfl⟩)
              · have hb := hF_46 c_46
                try simp only [if_neg c_46] at hQ
                refine ev_aload_n (pc := 49) dX12_ground_49 rfl ?_
                refine tv_geti (pc := 50) dX12_ground_50 fl_X12_280 (by decide) rfl rfl ?_
                refine ev_bipush (pc := 53) (v := 8) dX12_ground_53 (by decide) ?_
                have hT_55 := hb
                refine ev_icmp_ne (pc := 55) (tgt := 71) dX12_ground_55 (by decide) (fun c_55 => ?_) (fun c_55 => ?_)
                · have hb := hT_55 c_55
                  try simp only [if_neg c_55] at hQ
                  refine ev_iload (pc := 71) dX12_ground_71 rfl ?_
                  refine ev_if_eq (pc := 73) (tgt := 83) dX12_ground_73 (by decide) (fun c_73 => absurd c_73 c_46) (fun c_73 => ?_)
                  refine ev_aload_n (pc := 76) dX12_ground_76 rfl ?_
                  refine tv_geti (pc := 77) dX12_ground_77 fl_X12_280 (by decide) rfl rfl ?_
                  refine ev_goto (pc := 80) (tgt := 90) dX12_ground_80 (by decide) ?_
                  refine ev_is (y := (q90_1_X12_ground_68 n I A J t x1 x2 x3)) rfl ?_
                  refine ev_istore_5 (pc := 90) dX12_ground_90 (by decide) rfl ?_
                  refine ev_aload_n (pc := 92) dX12_ground_92 rfl ?_
                  refine tv_getr (pc := 93) (d := 89) dX12_ground_93 fl_X12_80 (by decide) rfl rfl ?_
                  refine ev_iload (pc := 96) dX12_ground_96 rfl ?_
                  refine ev_iload_n (pc := 98) dX12_ground_98 rfl ?_
                  refine tw_iast (pc := 99) (A2 := (qA99_2_X12_ground_68 n I A J t x1 x2 x3)) dX12_ground_99 (by decide) rfl hb.1 rfl ?_
                  replace hb := hb.2
                  refine ev_aload_n (pc := 100) dX12_ground_100 rfl ?_
                  refine tv_getr (pc := 101) (d := 90) dX12_ground_101 fl_X12_83 (by decide) rfl rfl ?_
                  refine ev_iload (pc := 104) dX12_ground_104 rfl ?_
                  refine ev_iload_n (pc := 106) dX12_ground_106 rfl ?_
                  refine tw_iast (pc := 107) (A2 := (qA107_3_X12_ground_68 n I A J t x1 x2 x3)) dX12_ground_107 (by decide) rfl hb.1 rfl ?_
                  replace hb := hb.2
                  refine ev_iload (pc := 108) dX12_ground_108 rfl ?_
                  refine ev_if_eq (pc := 110) (tgt := 140) dX12_ground_110 (by decide) (fun c_110 => absurd c_110 c_46) (fun c_110 => ?_)
                  refine ev_aload_n (pc := 113) dX12_ground_113 rfl ?_
                  refine tv_getr (pc := 114) (d := 91) dX12_ground_114 fl_X12_86 (by decide) rfl rfl ?_
                  refine ev_aload_n (pc := 117) dX12_ground_117 rfl ?_
                  refine tv_geti (pc := 118) dX12_ground_118 fl_X12_280 (by decide) rfl rfl ?_
                  refine ev_iload_n (pc := 121) dX12_ground_121 rfl ?_
                  refine tw_iast (pc := 122) (A2 := (qA122_X12_ground_68 n I A J t x1 x2 x3)) dX12_ground_122 (by decide) rfl hb rfl ?_
                  refine ev_aload_n (pc := 123) dX12_ground_123 rfl ?_
                  refine ev_dup (pc := 124) dX12_ground_124 rfl ?_
                  refine tv_geti (pc := 125) dX12_ground_125 fl_X12_280 (by decide) rfl rfl ?_
                  refine ev_iconst (pc := 128) (v := 1) dX12_ground_128 (by decide) ?_
                  refine ev_iadd (pc := 129) dX12_ground_129 ?_
                  refine tw_puti (pc := 130) (I2 := (qI130_X12_ground_68 n I A J t x1 x2 x3)) dX12_ground_130 fp_X12_280 (by decide) rfl rfl rfl ?_
                  refine ev_aload_n (pc := 133) dX12_ground_133 rfl ?_
                  refine tv_geti (pc := 134) dX12_ground_134 fl_X12_280 (by decide) rfl rfl ?_
                  refine ev_iconst (pc := 137) (v := 1) dX12_ground_137 (by decide) ?_
                  refine ev_isub (pc := 138) dX12_ground_138 ?_
                  exact ev_iret (pc := 139) dX12_ground_139 rfl (by decide) (by decide) (hQ _ _ ⟨rfl, rfl⟩)
                · try simp only [if_pos c_55] at hQ
                  refine ev_goto (pc := 58) (tgt := 69) dX12_ground_58 (by decide) ?_
                  refine ev_iconst (pc := 69) (v := (-1)) dX12_ground_69 (by decide) ?_
                  exact ev_iret (pc := 70) dX12_ground_70 rfl (by decide) (by decide) (hQ _ _ ⟨rfl, rfl⟩)
            · try simp only [if_neg c_28] at hQ
              refine ev_iconst (pc := 31) (v := (-1)) dX12_ground_31 (by decide) ?_
              exact ev_iret (pc := 32) dX12_ground_32 rfl (by decide) (by decide) (hQ _ _ ⟨rfl, rfl⟩)

def qA39_X12_mast_68 (n : Nat) (I : Nat → Nat → Int32) (A : Nat → Nat → Int32) (J : Nat → Nat → Int64) (t : Bool × Bool) (x1 : Int32) (x2 : Int32) : Nat → Nat → Int32 := cw_u A 92 ((I 68 40)).toNatClampNeg x1
def qA49_X12_mast_68 (n : Nat) (I : Nat → Nat → Int32) (A : Nat → Nat → Int32) (J : Nat → Nat → Int64) (t : Bool × Bool) (x1 : Int32) (x2 : Int32) : Nat → Nat → Int32 := cw_u (qA39_X12_mast_68 n I A J t x1 x2) 93 ((I 68 40)).toNatClampNeg x2
def qI57_X12_mast_68 (n : Nat) (I : Nat → Nat → Int32) (A : Nat → Nat → Int32) (J : Nat → Nat → Int64) (t : Bool × Bool) (x1 : Int32) (x2 : Int32) : Nat → Nat → Int32 := cw_u I 68 40 ((I 68 40) + 1)
def pb_X12_mast_68 (n : Nat) (I : Nat → Nat → Int32) (A : Nat → Nat → Int32) (J : Nat → Nat → Int64) (t : Bool × Bool) (x1 : Int32) (x2 : Int32) : Prop := (¬ (I 68 40) = 6 → (¬ (px_X12_isSite_68 n I A J t x1) = 0 → (¬ x2 < 1 → (x2 ≤ 9 → vp_in (I 68 40) 6 ∧ vp_in (I 68 40) 6))))
def px_X12_mast_68 (n : Nat) (I : Nat → Nat → Int32) (A : Nat → Nat → Int32) (J : Nat → Nat → Int64) (t : Bool × Bool) (x1 : Int32) (x2 : Int32) : Int32 := (if (I 68 40) = 6 then (-1) else (if (px_X12_isSite_68 n I A J t x1) = 0 then (-1) else (if x2 < 1 then (-1) else (if x2 ≤ 9 then (((qI57_X12_mast_68 n I A J t x1 x2) 68 40) - 1) else (-1)))))
def pI_X12_mast_68 (n : Nat) (I : Nat → Nat → Int32) (A : Nat → Nat → Int32) (J : Nat → Nat → Int64) (t : Bool × Bool) (x1 : Int32) (x2 : Int32) : Nat → Nat → Int32 := (if (I 68 40) = 6 then I else (if (px_X12_isSite_68 n I A J t x1) = 0 then I else (if x2 < 1 then I else (if x2 ≤ 9 then (qI57_X12_mast_68 n I A J t x1 x2) else I))))
def pA_X12_mast_68 (n : Nat) (I : Nat → Nat → Int32) (A : Nat → Nat → Int32) (J : Nat → Nat → Int64) (t : Bool × Bool) (x1 : Int32) (x2 : Int32) : Nat → Nat → Int32 := (if (I 68 40) = 6 then A else (if (px_X12_isSite_68 n I A J t x1) = 0 then A else (if x2 < 1 then A else (if x2 ≤ 9 then (qA49_X12_mast_68 n I A J t x1 x2) else A))))
set_option maxRecDepth 100000 in
set_option maxHeartbeats 4000000 in
theorem cv_X12_mast_68 (g : cw_G) (n : Nat) (I : Nat → Nat → Int32) (A : Nat → Nat → Int32) (J : Nat → Nat → Int64) (t : Bool × Bool) (x1 : Int32) (x2 : Int32) (hb : pb_X12_mast_68 n I A J t x1 x2) : Cd g mX12_mast [(.ref (cw_z g + 68)), (.int x1), (.int x2)] (hp g I A J t) (some (.int (px_X12_mast_68 n I A J t x1 x2))) (hp g (pI_X12_mast_68 n I A J t x1 x2) (pA_X12_mast_68 n I A J t x1 x2) J t) := by
  unfold pb_X12_mast_68 at hb
  unfold px_X12_mast_68 pI_X12_mast_68 pA_X12_mast_68
  refine Cd.of rfl (Nat.le_of_ble_eq_true rfl) (ev_gen (fun Q hQ => ?_))
  refine ev_aload_n (pc := 0) dX12_mast_0 rfl ?_
  refine tv_geti (pc := 1) dX12_mast_1 fl_X12_289 (by decide) rfl rfl ?_
  refine ev_bipush (pc := 4) (v := 6) dX12_mast_4 (by decide) ?_
  have hF_6 := hb
  refine ev_icmp_eq (pc := 6) (tgt := 28) dX12_mast_6 (by decide) (fun c_6 => ?_) (fun c_6 => ?_)
  · try simp only [if_pos c_6] at hQ
    refine ev_iconst (pc := 28) (v := (-1)) dX12_mast_28 (by decide) ?_
    exact ev_iret (pc := 29) dX12_mast_29 rfl (by decide) (by decide) (hQ _ _ ⟨rfl, rfl⟩)
  · have hb := hF_6 c_6
    try simp only [if_neg c_6] at hQ
    refine ev_aload_n (pc := 9) dX12_mast_9 rfl ?_
    refine ev_iload_n (pc := 10) dX12_mast_10 rfl ?_
    refine ev_Vi (pc := 11) dX12_mast_11 lk_X12_292 cd_X12_isSite ar_X12_isSite ⟨by decide, rfl, rfl⟩ (cv_X12_isSite_68 g n I A J t x1) (show 68 < 120 by decide) rfl rfl rfl rfl (Nat.le_of_ble_eq_true rfl) ⟨by decide, by decide⟩ ?_
    have hF_14 := hb
    refine ev_if_eq (pc := 14) (tgt := 28) dX12_mast_14 (by decide) (fun c_14 => ?_) (fun c_14 => ?_)
    · try simp only [if_pos c_14] at hQ
      refine ev_iconst (pc := 28) (v := (-1)) dX12_mast_28 (by decide) ?_
      exact ev_iret (pc := 29) dX12_mast_29 rfl (by decide) (by decide) (hQ _ _ ⟨rfl, rfl⟩)
    · have hb := hF_14 c_14
      try simp only [if_neg c_14] at hQ
      refine ev_iload_n (pc := 17) dX12_mast_17 rfl ?_
      refine ev_iconst (pc := 18) (v := 1) dX12_mast_18 (by decide) ?_
      have hF_19 := hb
      refine ev_icmp_lt (pc := 19) (tgt := 28) dX12_mast_19 (by decide) (fun c_19 => ?_) (fun c_19 => ?_)
      · try simp only [if_pos c_19] at hQ
        refine ev_iconst (pc := 28) (v := (-1)) dX12_mast_28 (by decide) ?_
        exact ev_iret (pc := 29) dX12_mast_29 rfl (by decide) (by decide) (hQ _ _ ⟨rfl, rfl⟩)
      · have hb := hF_19 c_19
        try simp only [if_neg c_19] at hQ
        refine ev_iload_n (pc := 22) dX12_mast_22 rfl ?_
        refine ev_bipush (pc := 23) (v := 9) dX12_mast_23 (by decide) ?_
        have hT_25 := hb
        refine ev_icmp_le (pc := 25) (tgt := 30) dX12_mast_25 (by decide) (fun c_25 => ?_) (fun c_25 => ?_)
        · have hb := hT_25 c_25
          try simp only [if_pos c_25] at hQ
          refine ev_aload_n (pc := 30) dX12_mast_30 rfl ?_
          refine tv_getr (pc := 31) (d := 92) dX12_mast_31 fl_X12_89 (by decide) rfl rfl ?_
          refine ev_aload_n (pc := 34) dX12_mast_34 rfl ?_
          refine tv_geti (pc := 35) dX12_mast_35 fl_X12_289 (by decide) rfl rfl ?_
          refine ev_iload_n (pc := 38) dX12_mast_38 rfl ?_
          refine tw_iast (pc := 39) (A2 := (qA39_X12_mast_68 n I A J t x1 x2)) dX12_mast_39 (by decide) rfl hb.1 rfl ?_
          replace hb := hb.2
          refine ev_aload_n (pc := 40) dX12_mast_40 rfl ?_
          refine tv_getr (pc := 41) (d := 93) dX12_mast_41 fl_X12_92 (by decide) rfl rfl ?_
          refine ev_aload_n (pc := 44) dX12_mast_44 rfl ?_
          refine tv_geti (pc := 45) dX12_mast_45 fl_X12_289 (by decide) rfl rfl ?_
          refine ev_iload_n (pc := 48) dX12_mast_48 rfl ?_
          refine tw_iast (pc := 49) (A2 := (qA49_X12_mast_68 n I A J t x1 x2)) dX12_mast_49 (by decide) rfl hb rfl ?_
          refine ev_aload_n (pc := 50) dX12_mast_50 rfl ?_
          refine ev_dup (pc := 51) dX12_mast_51 rfl ?_
          refine tv_geti (pc := 52) dX12_mast_52 fl_X12_289 (by decide) rfl rfl ?_
          refine ev_iconst (pc := 55) (v := 1) dX12_mast_55 (by decide) ?_
          refine ev_iadd (pc := 56) dX12_mast_56 ?_
          refine tw_puti (pc := 57) (I2 := (qI57_X12_mast_68 n I A J t x1 x2)) dX12_mast_57 fp_X12_289 (by decide) rfl rfl rfl ?_
          refine ev_aload_n (pc := 60) dX12_mast_60 rfl ?_
          refine tv_geti (pc := 61) dX12_mast_61 fl_X12_289 (by decide) rfl rfl ?_
          refine ev_iconst (pc := 64) (v := 1) dX12_mast_64 (by decide) ?_
          refine ev_isub (pc := 65) dX12_mast_65 ?_
          exact ev_iret (pc := 66) dX12_mast_66 rfl (by decide) (by decide) (hQ _ _ ⟨rfl, rfl⟩)
        · try simp only [if_neg c_25] at hQ
          refine ev_iconst (pc := 28) (v := (-1)) dX12_mast_28 (by decide) ?_
          exact ev_iret (pc := 29) dX12_mast_29 rfl (by decide) (by decide) (hQ _ _ ⟨rfl, rfl⟩)

def qA43_X12_programme_68 (n : Nat) (I : Nat → Nat → Int32) (A : Nat → Nat → Int32) (J : Nat → Nat → Int64) (t : Bool × Bool) (x1 : Int32) (x2 : Int32) (x3 : Int32) : Nat → Nat → Int32 := cw_u A 94 ((I 68 43)).toNatClampNeg x1
def qA53_X12_programme_68 (n : Nat) (I : Nat → Nat → Int32) (A : Nat → Nat → Int32) (J : Nat → Nat → Int64) (t : Bool × Bool) (x1 : Int32) (x2 : Int32) (x3 : Int32) : Nat → Nat → Int32 := cw_u (qA43_X12_programme_68 n I A J t x1 x2 x3) 95 ((I 68 43)).toNatClampNeg x2
def qA63_X12_programme_68 (n : Nat) (I : Nat → Nat → Int32) (A : Nat → Nat → Int32) (J : Nat → Nat → Int64) (t : Bool × Bool) (x1 : Int32) (x2 : Int32) (x3 : Int32) : Nat → Nat → Int32 := cw_u (qA53_X12_programme_68 n I A J t x1 x2 x3) 96 ((I 68 43)).toNatClampNeg x3
def qI71_X12_programme_68 (n : Nat) (I : Nat → Nat → Int32) (A : Nat → Nat → Int32) (J : Nat → Nat → Int64) (t : Bool × Bool) (x1 : Int32) (x2 : Int32) (x3 : Int32) : Nat → Nat → Int32 := cw_u I 68 43 ((I 68 43) + 1)
def pb_X12_programme_68 (n : Nat) (I : Nat → Nat → Int32) (A : Nat → Nat → Int32) (J : Nat → Nat → Int64) (t : Bool × Bool) (x1 : Int32) (x2 : Int32) (x3 : Int32) : Prop := (¬ (I 68 43) = 10 → (¬ (px_X12_isLand_68 n I A J t x1) = 0 → (¬ x2 < 0 → (¬ x3 ≤ x2 → (x3 ≤ 24 → vp_in (I 68 43) 10 ∧ vp_in (I 68 43) 10 ∧ vp_in (I 68 43) 10)))))
def px_X12_programme_68 (n : Nat) (I : Nat → Nat → Int32) (A : Nat → Nat → Int32) (J : Nat → Nat → Int64) (t : Bool × Bool) (x1 : Int32) (x2 : Int32) (x3 : Int32) : Int32 := (if (I 68 43) = 10 then (-1) else (if (px_X12_isLand_68 n I A J t x1) = 0 then (-1) else (if x2 < 0 then (-1) else (if x3 ≤ x2 then (-1) else (if x3 ≤ 24 then (((qI71_X12_programme_68 n I A J t x1 x2 x3) 68 43) - 1) else (-1))))))
def pI_X12_programme_68 (n : Nat) (I : Nat → Nat → Int32) (A : Nat → Nat → Int32) (J : Nat → Nat → Int64) (t : Bool × Bool) (x1 : Int32) (x2 : Int32) (x3 : Int32) : Nat → Nat → Int32 := (if (I 68 43) = 10 then I else (if (px_X12_isLand_68 n I A J t x1) = 0 then I else (if x2 < 0 then I else (if x3 ≤ x2 then I else (if x3 ≤ 24 then (qI71_X12_programme_68 n I A J t x1 x2 x3) else I)))))
def pA_X12_programme_68 (n : Nat) (I : Nat → Nat → Int32) (A : Nat → Nat → Int32) (J : Nat → Nat → Int64) (t : Bool × Bool) (x1 : Int32) (x2 : Int32) (x3 : Int32) : Nat → Nat → Int32 := (if (I 68 43) = 10 then A else (if (px_X12_isLand_68 n I A J t x1) = 0 then A else (if x2 < 0 then A else (if x3 ≤ x2 then A else (if x3 ≤ 24 then (qA63_X12_programme_68 n I A J t x1 x2 x3) else A)))))
set_option maxRecDepth 100000 in
set_option maxHeartbeats 4000000 in
theorem cv_X12_programme_68 (g : cw_G) (n : Nat) (I : Nat → Nat → Int32) (A : Nat → Nat → Int32) (J : Nat → Nat → Int64) (t : Bool × Bool) (x1 : Int32) (x2 : Int32) (x3 : Int32) (hb : pb_X12_programme_68 n I A J t x1 x2 x3) : Cd g mX12_programme [(.ref (cw_z g + 68)), (.int x1), (.int x2), (.int x3)] (hp g I A J t) (some (.int (px_X12_programme_68 n I A J t x1 x2 x3))) (hp g (pI_X12_programme_68 n I A J t x1 x2 x3) (pA_X12_programme_68 n I A J t x1 x2 x3) J t) := by
  unfold pb_X12_programme_68 at hb
  unfold px_X12_programme_68 pI_X12_programme_68 pA_X12_programme_68
  refine Cd.of rfl (Nat.le_of_ble_eq_true rfl) (ev_gen (fun Q hQ => ?_))
  refine ev_aload_n (pc := 0) dX12_programme_0 rfl ?_
  refine tv_geti (pc := 1) dX12_programme_1 fl_X12_295 (by decide) rfl rfl ?_
  refine ev_bipush (pc := 4) (v := 10) dX12_programme_4 (by decide) ?_
  have hF_6 := hb
  refine ev_icmp_eq (pc := 6) (tgt := 32) dX12_programme_6 (by decide) (fun c_6 => ?_) (fun c_6 => ?_)
  · try simp only [if_pos c_6] at hQ
    refine ev_iconst (pc := 32) (v := (-1)) dX12_programme_32 (by decide) ?_
    exact ev_iret (pc := 33) dX12_programme_33 rfl (by decide) (by decide) (hQ _ _ ⟨rfl, rfl⟩)
  · have hb := hF_6 c_6
    try simp only [if_neg c_6] at hQ
    refine ev_aload_n (pc := 9) dX12_programme_9 rfl ?_
    refine ev_iload_n (pc := 10) dX12_programme_10 rfl ?_
    refine ev_Vi (pc := 11) dX12_programme_11 lk_X12_298 cd_X12_isLand ar_X12_isLand ⟨by decide, rfl, rfl⟩ (cv_X12_isLand_68 g n I A J t x1) (show 68 < 120 by decide) rfl rfl rfl rfl (Nat.le_of_ble_eq_true rfl) ⟨by decide, by decide⟩ ?_
    have hF_14 := hb
    refine ev_if_eq (pc := 14) (tgt := 32) dX12_programme_14 (by decide) (fun c_14 => ?_) (fun c_14 => ?_)
    · try simp only [if_pos c_14] at hQ
      refine ev_iconst (pc := 32) (v := (-1)) dX12_programme_32 (by decide) ?_
      exact ev_iret (pc := 33) dX12_programme_33 rfl (by decide) (by decide) (hQ _ _ ⟨rfl, rfl⟩)
    · have hb := hF_14 c_14
      try simp only [if_neg c_14] at hQ
      refine ev_iload_n (pc := 17) dX12_programme_17 rfl ?_
      have hF_18 := hb
      refine ev_if_lt (pc := 18) (tgt := 32) dX12_programme_18 (by decide) (fun c_18 => ?_) (fun c_18 => ?_)
      · try simp only [if_pos c_18] at hQ
        refine ev_iconst (pc := 32) (v := (-1)) dX12_programme_32 (by decide) ?_
        exact ev_iret (pc := 33) dX12_programme_33 rfl (by decide) (by decide) (hQ _ _ ⟨rfl, rfl⟩)
      · have hb := hF_18 c_18
        try simp only [if_neg c_18] at hQ
        refine ev_iload_n (pc := 21) dX12_programme_21 rfl ?_
        refine ev_iload_n (pc := 22) dX12_programme_22 rfl ?_
        have hF_23 := hb
        refine ev_icmp_ge (pc := 23) (tgt := 32) dX12_programme_23 (by decide) (fun c_23 => ?_) (fun c_23 => ?_)
        · try simp only [if_pos c_23] at hQ
          refine ev_iconst (pc := 32) (v := (-1)) dX12_programme_32 (by decide) ?_
          exact ev_iret (pc := 33) dX12_programme_33 rfl (by decide) (by decide) (hQ _ _ ⟨rfl, rfl⟩)
        · have hb := hF_23 c_23
          try simp only [if_neg c_23] at hQ
          refine ev_iload_n (pc := 26) dX12_programme_26 rfl ?_
          refine ev_bipush (pc := 27) (v := 24) dX12_programme_27 (by decide) ?_
          have hT_29 := hb
          refine ev_icmp_le (pc := 29) (tgt := 34) dX12_programme_29 (by decide) (fun c_29 => ?_) (fun c_29 => ?_)
          · have hb := hT_29 c_29
            try simp only [if_pos c_29] at hQ
            refine ev_aload_n (pc := 34) dX12_programme_34 rfl ?_
            refine tv_getr (pc := 35) (d := 94) dX12_programme_35 fl_X12_95 (by decide) rfl rfl ?_
            refine ev_aload_n (pc := 38) dX12_programme_38 rfl ?_
            refine tv_geti (pc := 39) dX12_programme_39 fl_X12_295 (by decide) rfl rfl ?_
            refine ev_iload_n (pc := 42) dX12_programme_42 rfl ?_
            refine tw_iast (pc := 43) (A2 := (qA43_X12_programme_68 n I A J t x1 x2 x3)) dX12_programme_43 (by decide) rfl hb.1 rfl ?_
            replace hb := hb.2
            refine ev_aload_n (pc := 44) dX12_programme_44 rfl ?_
            refine tv_getr (pc := 45) (d := 95) dX12_programme_45 fl_X12_98 (by decide) rfl rfl ?_
            refine ev_aload_n (pc := 48) dX12_programme_48 rfl ?_
            refine tv_geti (pc := 49) dX12_programme_49 fl_X12_295 (by decide) rfl rfl ?_
            refine ev_iload_n (pc := 52) dX12_programme_52 rfl ?_
            refine tw_iast (pc := 53) (A2 := (qA53_X12_programme_68 n I A J t x1 x2 x3)) dX12_programme_53 (by decide) rfl hb.1 rfl ?_
            replace hb := hb.2
            refine ev_aload_n (pc := 54) dX12_programme_54 rfl ?_
            refine tv_getr (pc := 55) (d := 96) dX12_programme_55 fl_X12_101 (by decide) rfl rfl ?_
            refine ev_aload_n (pc := 58) dX12_programme_58 rfl ?_
            refine tv_geti (pc := 59) dX12_programme_59 fl_X12_295 (by decide) rfl rfl ?_
            refine ev_iload_n (pc := 62) dX12_programme_62 rfl ?_
            refine tw_iast (pc := 63) (A2 := (qA63_X12_programme_68 n I A J t x1 x2 x3)) dX12_programme_63 (by decide) rfl hb rfl ?_
            refine ev_aload_n (pc := 64) dX12_programme_64 rfl ?_
            refine ev_dup (pc := 65) dX12_programme_65 rfl ?_
            refine tv_geti (pc := 66) dX12_programme_66 fl_X12_295 (by decide) rfl rfl ?_
            refine ev_iconst (pc := 69) (v := 1) dX12_programme_69 (by decide) ?_
            refine ev_iadd (pc := 70) dX12_programme_70 ?_
            refine tw_puti (pc := 71) (I2 := (qI71_X12_programme_68 n I A J t x1 x2 x3)) dX12_programme_71 fp_X12_295 (by decide) rfl rfl rfl ?_
            refine ev_aload_n (pc := 74) dX12_programme_74 rfl ?_
            refine tv_geti (pc := 75) dX12_programme_75 fl_X12_295 (by decide) rfl rfl ?_
            refine ev_iconst (pc := 78) (v := 1) dX12_programme_78 (by decide) ?_
            refine ev_isub (pc := 79) dX12_programme_79 ?_
            exact ev_iret (pc := 80) dX12_programme_80 rfl (by decide) (by decide) (hQ _ _ ⟨rfl, rfl⟩)
          · try simp only [if_neg c_29] at hQ
            refine ev_iconst (pc := 32) (v := (-1)) dX12_programme_32 (by decide) ?_
            exact ev_iret (pc := 33) dX12_programme_33 rfl (by decide) (by decide) (hQ _ _ ⟨rfl, rfl⟩)

def qA29_X12_sheet_68 (n : Nat) (I : Nat → Nat → Int32) (A : Nat → Nat → Int32) (J : Nat → Nat → Int64) (t : Bool × Bool) (x1 : Int32) (x2 : Int32) : Nat → Nat → Int32 := cw_u A 97 (x1).toNatClampNeg x2
def qA51_X12_sheet_68 (n : Nat) (I : Nat → Nat → Int32) (A : Nat → Nat → Int32) (J : Nat → Nat → Int64) (t : Bool × Bool) (x1 : Int32) (x2 : Int32) (A32 : Nat → Nat → Int32) (v32_3 : Int32) : Nat → Nat → Int32 := cw_u A32 98 ((((270 : Int32) * x1) + v32_3)).toNatClampNeg 0
def q52_X12_sheet_68 (n : Nat) (I : Nat → Nat → Int32) (A : Nat → Nat → Int32) (J : Nat → Nat → Int64) (t : Bool × Bool) (x1 : Int32) (x2 : Int32) (A32 : Nat → Nat → Int32) (v32_3 : Int32) : Int32 := v32_3 + 1
def lp_X12_sheet_68_32 (n : Nat) (I : Nat → Nat → Int32) (A : Nat → Nat → Int32) (J : Nat → Nat → Int64) (t : Bool × Bool) (x1 : Int32) (x2 : Int32) : Nat → (Nat → Nat → Int32) → (Int32) → (Nat → Nat → Int32) × Int32
  | 0, A32, v32_3 => (A32, v32_3)
  | f + 1, A32, v32_3 => if 270 ≤ v32_3 then (A32, v32_3) else lp_X12_sheet_68_32 n I A J t x1 x2 f (qA51_X12_sheet_68 n I A J t x1 x2 A32 v32_3) (q52_X12_sheet_68 n I A J t x1 x2 A32 v32_3)
def lb_X12_sheet_68_32 (n : Nat) (I : Nat → Nat → Int32) (A : Nat → Nat → Int32) (J : Nat → Nat → Int64) (t : Bool × Bool) (x1 : Int32) (x2 : Int32) : Nat → (Nat → Nat → Int32) → (Int32) → Prop
  | 0, _, _ => False
  | f + 1, A32, v32_3 => (¬ 270 ≤ v32_3 → vp_in (((270 : Int32) * x1) + v32_3) 1080 ∧ lb_X12_sheet_68_32 n I A J t x1 x2 f (qA51_X12_sheet_68 n I A J t x1 x2 A32 v32_3) (q52_X12_sheet_68 n I A J t x1 x2 A32 v32_3))
def qAw32_X12_sheet_68 (n : Nat) (I : Nat → Nat → Int32) (A : Nat → Nat → Int32) (J : Nat → Nat → Int64) (t : Bool × Bool) (x1 : Int32) (x2 : Int32) : Nat → Nat → Int32 := (lp_X12_sheet_68_32 n I A J t x1 x2 n (qA29_X12_sheet_68 n I A J t x1 x2) 0).1
def q3w32_X12_sheet_68 (n : Nat) (I : Nat → Nat → Int32) (A : Nat → Nat → Int32) (J : Nat → Nat → Int64) (t : Bool × Bool) (x1 : Int32) (x2 : Int32) : Int32 := (lp_X12_sheet_68_32 n I A J t x1 x2 n (qA29_X12_sheet_68 n I A J t x1 x2) 0).2
def pb_X12_sheet_68 (n : Nat) (I : Nat → Nat → Int32) (A : Nat → Nat → Int32) (J : Nat → Nat → Int64) (t : Bool × Bool) (x1 : Int32) (x2 : Int32) : Prop := (¬ x1 < 0 → (¬ 3 < x1 → (¬ x2 < (-1) → (x2 ≤ 270 → vp_in x1 4 ∧ lb_X12_sheet_68_32 n I A J t x1 x2 n (qA29_X12_sheet_68 n I A J t x1 x2) 0))))
def px_X12_sheet_68 (n : Nat) (I : Nat → Nat → Int32) (A : Nat → Nat → Int32) (J : Nat → Nat → Int64) (t : Bool × Bool) (x1 : Int32) (x2 : Int32) : Int32 := (if x1 < 0 then 0 else (if 3 < x1 then 0 else (if x2 < (-1) then 0 else (if x2 ≤ 270 then 1 else 0))))
def pA_X12_sheet_68 (n : Nat) (I : Nat → Nat → Int32) (A : Nat → Nat → Int32) (J : Nat → Nat → Int64) (t : Bool × Bool) (x1 : Int32) (x2 : Int32) : Nat → Nat → Int32 := (if x1 < 0 then A else (if 3 < x1 then A else (if x2 < (-1) then A else (if x2 ≤ 270 then (qAw32_X12_sheet_68 n I A J t x1 x2) else A))))
set_option maxRecDepth 100000 in
set_option maxHeartbeats 4000000 in
theorem lt_X12_sheet_68_32 (g : cw_G) (n : Nat) (I : Nat → Nat → Int32) (A : Nat → Nat → Int32) (J : Nat → Nat → Int64) (t : Bool × Bool) (x1 : Int32) (x2 : Int32) {Q : Option Value → cw_H → Prop} : ∀ (f : Nat) (A32 : Nat → Nat → Int32) (v32_3 : Int32) (w0 : Nat → Nat → Int32) (w1 : Int32), lb_X12_sheet_68_32 n I A J t x1 x2 f A32 v32_3 → (lp_X12_sheet_68_32 n I A J t x1 x2 f A32 v32_3).1 = w0 → (lp_X12_sheet_68_32 n I A J t x1 x2 f A32 v32_3).2 = w1 → Ev g mX12_sheet 0 0 58 [some (.ref (cw_z g + 68)), some (.int x1), some (.int x2), some (.int w1)] [] (hp g I w0 J t) Q → Ev g mX12_sheet 0 0 32 [some (.ref (cw_z g + 68)), some (.int x1), some (.int x2), some (.int v32_3)] [] (hp g I A32 J t) Q := by
  intro f
  induction f with
  | zero =>
    intro A32 v32_3 w0 w1 hb
    exact hb.elim
  | succ f ih =>
    intro A32 v32_3 w0 w1 hb h0 h1 hE
    rw [lb_X12_sheet_68_32] at hb
    rw [lp_X12_sheet_68_32] at h0 h1
    refine ev_iload_n (pc := 32) dX12_sheet_32 rfl ?_
    refine ev_sipush (pc := 33) (v := 270) dX12_sheet_33 (by decide) ?_
    have hF_36 := hb
    refine ev_icmp_ge (pc := 36) (tgt := 58) dX12_sheet_36 (by decide) (fun c_36 => ?_) (fun c_36 => ?_)
    · try simp only [if_pos c_36] at h0
      try simp only [if_pos c_36] at h1
      subst h0
      subst h1
      exact ev_loc hE cw_le0
    · have hb := hF_36 c_36
      try simp only [if_neg c_36] at h0
      try simp only [if_neg c_36] at h1
      refine ev_aload_n (pc := 39) dX12_sheet_39 rfl ?_
      refine tv_getr (pc := 40) (d := 98) dX12_sheet_40 fl_X12_107 (by decide) rfl rfl ?_
      refine ev_sipush (pc := 43) (v := 270) dX12_sheet_43 (by decide) ?_
      refine ev_iload_n (pc := 46) dX12_sheet_46 rfl ?_
      refine ev_imul (pc := 47) dX12_sheet_47 ?_
      refine ev_iload_n (pc := 48) dX12_sheet_48 rfl ?_
      refine ev_iadd (pc := 49) dX12_sheet_49 ?_
      refine ev_iconst (pc := 50) (v := 0) dX12_sheet_50 (by decide) ?_
      refine tw_iast (pc := 51) (A2 := (qA51_X12_sheet_68 n I A J t x1 x2 A32 v32_3)) dX12_sheet_51 (by decide) rfl hb.1 rfl ?_
      replace hb := hb.2
      refine ev_iinc_3 (pc := 52) (v := (q52_X12_sheet_68 n I A J t x1 x2 A32 v32_3)) dX12_sheet_52 (by decide) rfl rfl ?_
      refine ev_goto (pc := 55) (tgt := 32) dX12_sheet_55 (by decide) ?_
      exact ev_loc (ih (qA51_X12_sheet_68 n I A J t x1 x2 A32 v32_3) (q52_X12_sheet_68 n I A J t x1 x2 A32 v32_3) w0 w1 hb h0 h1 hE) cw_le0

set_option maxRecDepth 100000 in
set_option maxHeartbeats 4000000 in
theorem cv_X12_sheet_68 (g : cw_G) (n : Nat) (I : Nat → Nat → Int32) (A : Nat → Nat → Int32) (J : Nat → Nat → Int64) (t : Bool × Bool) (x1 : Int32) (x2 : Int32) (hb : pb_X12_sheet_68 n I A J t x1 x2) : Cd g mX12_sheet [(.ref (cw_z g + 68)), (.int x1), (.int x2)] (hp g I A J t) (some (.int (px_X12_sheet_68 n I A J t x1 x2))) (hp g I (pA_X12_sheet_68 n I A J t x1 x2) J t) := by
  unfold pb_X12_sheet_68 at hb
  unfold px_X12_sheet_68 pA_X12_sheet_68
  refine Cd.of rfl (Nat.le_of_ble_eq_true rfl) (ev_gen (fun Q hQ => ?_))
  refine ev_iload_n (pc := 0) dX12_sheet_0 rfl ?_
  have hF_1 := hb
  refine ev_if_lt (pc := 1) (tgt := 21) dX12_sheet_1 (by decide) (fun c_1 => ?_) (fun c_1 => ?_)
  · try simp only [if_pos c_1] at hQ
    refine ev_iconst (pc := 21) (v := 0) dX12_sheet_21 (by decide) ?_
    exact ev_zret (pc := 22) dX12_sheet_22 rfl rfl (by decide) (by decide) (hQ _ _ ⟨rfl, rfl⟩)
  · have hb := hF_1 c_1
    try simp only [if_neg c_1] at hQ
    refine ev_iload_n (pc := 4) dX12_sheet_4 rfl ?_
    refine ev_iconst (pc := 5) (v := 3) dX12_sheet_5 (by decide) ?_
    have hF_6 := hb
    refine ev_icmp_gt (pc := 6) (tgt := 21) dX12_sheet_6 (by decide) (fun c_6 => ?_) (fun c_6 => ?_)
    · try simp only [if_pos c_6] at hQ
      refine ev_iconst (pc := 21) (v := 0) dX12_sheet_21 (by decide) ?_
      exact ev_zret (pc := 22) dX12_sheet_22 rfl rfl (by decide) (by decide) (hQ _ _ ⟨rfl, rfl⟩)
    · have hb := hF_6 c_6
      try simp only [if_neg c_6] at hQ
      refine ev_iload_n (pc := 9) dX12_sheet_9 rfl ?_
      refine ev_iconst (pc := 10) (v := (-1)) dX12_sheet_10 (by decide) ?_
      have hF_11 := hb
      refine ev_icmp_lt (pc := 11) (tgt := 21) dX12_sheet_11 (by decide) (fun c_11 => ?_) (fun c_11 => ?_)
      · try simp only [if_pos c_11] at hQ
        refine ev_iconst (pc := 21) (v := 0) dX12_sheet_21 (by decide) ?_
        exact ev_zret (pc := 22) dX12_sheet_22 rfl rfl (by decide) (by decide) (hQ _ _ ⟨rfl, rfl⟩)
      · have hb := hF_11 c_11
        try simp only [if_neg c_11] at hQ
        refine ev_iload_n (pc := 14) dX12_sheet_14 rfl ?_
        refine ev_sipush (pc := 15) (v := 270) dX12_sheet_15 (by decide) ?_
        have hT_18 := hb
        refine ev_icmp_le (pc := 18) (tgt := 23) dX12_sheet_18 (by decide) (fun c_18 => ?_) (fun c_18 => ?_)
        · have hb := hT_18 c_18
          try simp only [if_pos c_18] at hQ
          refine ev_aload_n (pc := 23) dX12_sheet_23 rfl ?_
          refine tv_getr (pc := 24) (d := 97) dX12_sheet_24 fl_X12_104 (by decide) rfl rfl ?_
          refine ev_iload_n (pc := 27) dX12_sheet_27 rfl ?_
          refine ev_iload_n (pc := 28) dX12_sheet_28 rfl ?_
          refine tw_iast (pc := 29) (A2 := (qA29_X12_sheet_68 n I A J t x1 x2)) dX12_sheet_29 (by decide) rfl hb.1 rfl ?_
          replace hb := hb.2
          refine ev_iconst (pc := 30) (v := 0) dX12_sheet_30 (by decide) ?_
          refine ev_istore_3 (pc := 31) dX12_sheet_31 (by decide) rfl ?_
          refine lt_X12_sheet_68_32 g n I A J t x1 x2 n (qA29_X12_sheet_68 n I A J t x1 x2) 0 (qAw32_X12_sheet_68 n I A J t x1 x2) (q3w32_X12_sheet_68 n I A J t x1 x2) hb rfl rfl ?_
          refine ev_iconst (pc := 58) (v := 1) dX12_sheet_58 (by decide) ?_
          exact ev_zret (pc := 59) dX12_sheet_59 rfl rfl (by decide) (by decide) (hQ _ _ ⟨rfl, rfl⟩)
        · try simp only [if_neg c_18] at hQ
          refine ev_iconst (pc := 21) (v := 0) dX12_sheet_21 (by decide) ?_
          exact ev_zret (pc := 22) dX12_sheet_22 rfl rfl (by decide) (by decide) (hQ _ _ ⟨rfl, rfl⟩)

theorem z1_X12_sheet_68 (n : Nat) (I : Nat → Nat → Int32) (A : Nat → Nat → Int32) (J : Nat → Nat → Int64) (t : Bool × Bool) (x1 : Int32) (x2 : Int32) : px_X12_sheet_68 n I A J t x1 x2 = 0 ∨ px_X12_sheet_68 n I A J t x1 x2 = 1 := (cw_ite (Or.inl rfl) (cw_ite (Or.inl rfl) (cw_ite (Or.inl rfl) (cw_ite (Or.inr rfl) (Or.inl rfl)))))

def qA49_X12_cell_68 (n : Nat) (I : Nat → Nat → Int32) (A : Nat → Nat → Int32) (J : Nat → Nat → Int64) (t : Bool × Bool) (x1 : Int32) (x2 : Int32) (x3 : Int32) : Nat → Nat → Int32 := cw_u A 98 ((((270 : Int32) * x1) + x2)).toNatClampNeg x3
def pb_X12_cell_68 (n : Nat) (I : Nat → Nat → Int32) (A : Nat → Nat → Int32) (J : Nat → Nat → Int64) (t : Bool × Bool) (x1 : Int32) (x2 : Int32) (x3 : Int32) : Prop := (¬ x1 < 0 → (¬ 3 < x1 → (¬ x2 < 0 → vp_in x1 4 ∧ (¬ (A 97 (x1).toNatClampNeg) ≤ x2 → (¬ x3 < (-99) → (x3 ≤ 99 → vp_in (((270 : Int32) * x1) + x2) 1080))))))
def px_X12_cell_68 (n : Nat) (I : Nat → Nat → Int32) (A : Nat → Nat → Int32) (J : Nat → Nat → Int64) (t : Bool × Bool) (x1 : Int32) (x2 : Int32) (x3 : Int32) : Int32 := (if x1 < 0 then 0 else (if 3 < x1 then 0 else (if x2 < 0 then 0 else (if (A 97 (x1).toNatClampNeg) ≤ x2 then 0 else (if x3 < (-99) then 0 else (if x3 ≤ 99 then 1 else 0))))))
def pA_X12_cell_68 (n : Nat) (I : Nat → Nat → Int32) (A : Nat → Nat → Int32) (J : Nat → Nat → Int64) (t : Bool × Bool) (x1 : Int32) (x2 : Int32) (x3 : Int32) : Nat → Nat → Int32 := (if x1 < 0 then A else (if 3 < x1 then A else (if x2 < 0 then A else (if (A 97 (x1).toNatClampNeg) ≤ x2 then A else (if x3 < (-99) then A else (if x3 ≤ 99 then (qA49_X12_cell_68 n I A J t x1 x2 x3) else A))))))
set_option maxRecDepth 100000 in
set_option maxHeartbeats 4000000 in
theorem cv_X12_cell_68 (g : cw_G) (n : Nat) (I : Nat → Nat → Int32) (A : Nat → Nat → Int32) (J : Nat → Nat → Int64) (t : Bool × Bool) (x1 : Int32) (x2 : Int32) (x3 : Int32) (hb : pb_X12_cell_68 n I A J t x1 x2 x3) : Cd g mX12_cell [(.ref (cw_z g + 68)), (.int x1), (.int x2), (.int x3)] (hp g I A J t) (some (.int (px_X12_cell_68 n I A J t x1 x2 x3))) (hp g I (pA_X12_cell_68 n I A J t x1 x2 x3) J t) := by
  unfold pb_X12_cell_68 at hb
  unfold px_X12_cell_68 pA_X12_cell_68
  refine Cd.of rfl (Nat.le_of_ble_eq_true rfl) (ev_gen (fun Q hQ => ?_))
  refine ev_iload_n (pc := 0) dX12_cell_0 rfl ?_
  have hF_1 := hb
  refine ev_if_lt (pc := 1) (tgt := 35) dX12_cell_1 (by decide) (fun c_1 => ?_) (fun c_1 => ?_)
  · try simp only [if_pos c_1] at hQ
    refine ev_iconst (pc := 35) (v := 0) dX12_cell_35 (by decide) ?_
    exact ev_zret (pc := 36) dX12_cell_36 rfl rfl (by decide) (by decide) (hQ _ _ ⟨rfl, rfl⟩)
  · have hb := hF_1 c_1
    try simp only [if_neg c_1] at hQ
    refine ev_iload_n (pc := 4) dX12_cell_4 rfl ?_
    refine ev_iconst (pc := 5) (v := 3) dX12_cell_5 (by decide) ?_
    have hF_6 := hb
    refine ev_icmp_gt (pc := 6) (tgt := 35) dX12_cell_6 (by decide) (fun c_6 => ?_) (fun c_6 => ?_)
    · try simp only [if_pos c_6] at hQ
      refine ev_iconst (pc := 35) (v := 0) dX12_cell_35 (by decide) ?_
      exact ev_zret (pc := 36) dX12_cell_36 rfl rfl (by decide) (by decide) (hQ _ _ ⟨rfl, rfl⟩)
    · have hb := hF_6 c_6
      try simp only [if_neg c_6] at hQ
      refine ev_iload_n (pc := 9) dX12_cell_9 rfl ?_
      have hF_10 := hb
      refine ev_if_lt (pc := 10) (tgt := 35) dX12_cell_10 (by decide) (fun c_10 => ?_) (fun c_10 => ?_)
      · try simp only [if_pos c_10] at hQ
        refine ev_iconst (pc := 35) (v := 0) dX12_cell_35 (by decide) ?_
        exact ev_zret (pc := 36) dX12_cell_36 rfl rfl (by decide) (by decide) (hQ _ _ ⟨rfl, rfl⟩)
      · have hb := hF_10 c_10
        try simp only [if_neg c_10] at hQ
        refine ev_iload_n (pc := 13) dX12_cell_13 rfl ?_
        refine ev_aload_n (pc := 14) dX12_cell_14 rfl ?_
        refine tv_getr (pc := 15) (d := 97) dX12_cell_15 fl_X12_104 (by decide) rfl rfl ?_
        refine ev_iload_n (pc := 18) dX12_cell_18 rfl ?_
        refine ev_iald (pc := 19) dX12_cell_19 (by decide) rfl hb.1 ?_
        replace hb := hb.2
        have hF_20 := hb
        refine ev_icmp_ge (pc := 20) (tgt := 35) dX12_cell_20 (by decide) (fun c_20 => ?_) (fun c_20 => ?_)
        · try simp only [if_pos c_20] at hQ
          refine ev_iconst (pc := 35) (v := 0) dX12_cell_35 (by decide) ?_
          exact ev_zret (pc := 36) dX12_cell_36 rfl rfl (by decide) (by decide) (hQ _ _ ⟨rfl, rfl⟩)
        · have hb := hF_20 c_20
          try simp only [if_neg c_20] at hQ
          refine ev_iload_n (pc := 23) dX12_cell_23 rfl ?_
          refine ev_bipush (pc := 24) (v := (-99)) dX12_cell_24 (by decide) ?_
          have hF_26 := hb
          refine ev_icmp_lt (pc := 26) (tgt := 35) dX12_cell_26 (by decide) (fun c_26 => ?_) (fun c_26 => ?_)
          · try simp only [if_pos c_26] at hQ
            refine ev_iconst (pc := 35) (v := 0) dX12_cell_35 (by decide) ?_
            exact ev_zret (pc := 36) dX12_cell_36 rfl rfl (by decide) (by decide) (hQ _ _ ⟨rfl, rfl⟩)
          · have hb := hF_26 c_26
            try simp only [if_neg c_26] at hQ
            refine ev_iload_n (pc := 29) dX12_cell_29 rfl ?_
            refine ev_bipush (pc := 30) (v := 99) dX12_cell_30 (by decide) ?_
            have hT_32 := hb
            refine ev_icmp_le (pc := 32) (tgt := 37) dX12_cell_32 (by decide) (fun c_32 => ?_) (fun c_32 => ?_)
            · have hb := hT_32 c_32
              try simp only [if_pos c_32] at hQ
              refine ev_aload_n (pc := 37) dX12_cell_37 rfl ?_
              refine tv_getr (pc := 38) (d := 98) dX12_cell_38 fl_X12_107 (by decide) rfl rfl ?_
              refine ev_sipush (pc := 41) (v := 270) dX12_cell_41 (by decide) ?_
              refine ev_iload_n (pc := 44) dX12_cell_44 rfl ?_
              refine ev_imul (pc := 45) dX12_cell_45 ?_
              refine ev_iload_n (pc := 46) dX12_cell_46 rfl ?_
              refine ev_iadd (pc := 47) dX12_cell_47 ?_
              refine ev_iload_n (pc := 48) dX12_cell_48 rfl ?_
              refine tw_iast (pc := 49) (A2 := (qA49_X12_cell_68 n I A J t x1 x2 x3)) dX12_cell_49 (by decide) rfl hb rfl ?_
              refine ev_iconst (pc := 50) (v := 1) dX12_cell_50 (by decide) ?_
              exact ev_zret (pc := 51) dX12_cell_51 rfl rfl (by decide) (by decide) (hQ _ _ ⟨rfl, rfl⟩)
            · try simp only [if_neg c_32] at hQ
              refine ev_iconst (pc := 35) (v := 0) dX12_cell_35 (by decide) ?_
              exact ev_zret (pc := 36) dX12_cell_36 rfl rfl (by decide) (by decide) (hQ _ _ ⟨rfl, rfl⟩)

theorem z1_X12_cell_68 (n : Nat) (I : Nat → Nat → Int32) (A : Nat → Nat → Int32) (J : Nat → Nat → Int64) (t : Bool × Bool) (x1 : Int32) (x2 : Int32) (x3 : Int32) : px_X12_cell_68 n I A J t x1 x2 x3 = 0 ∨ px_X12_cell_68 n I A J t x1 x2 x3 = 1 := (cw_ite (Or.inl rfl) (cw_ite (Or.inl rfl) (cw_ite (Or.inl rfl) (cw_ite (Or.inl rfl) (cw_ite (Or.inl rfl) (cw_ite (Or.inr rfl) (Or.inl rfl)))))))

def qI19_X12_clock_68 (n : Nat) (I : Nat → Nat → Int32) (A : Nat → Nat → Int32) (J : Nat → Nat → Int64) (t : Bool × Bool) (x1 : Int32) : Nat → Nat → Int32 := cw_u I 68 49 x1
def px_X12_clock_68 (n : Nat) (I : Nat → Nat → Int32) (A : Nat → Nat → Int32) (J : Nat → Nat → Int64) (t : Bool × Bool) (x1 : Int32) : Int32 := (if x1 < (I 68 49) then 0 else (if (px_X12_isDay n I A J t x1) = 0 then 0 else 1))
def pI_X12_clock_68 (n : Nat) (I : Nat → Nat → Int32) (A : Nat → Nat → Int32) (J : Nat → Nat → Int64) (t : Bool × Bool) (x1 : Int32) : Nat → Nat → Int32 := (if x1 < (I 68 49) then I else (if (px_X12_isDay n I A J t x1) = 0 then I else (qI19_X12_clock_68 n I A J t x1)))
set_option maxRecDepth 100000 in
set_option maxHeartbeats 4000000 in
theorem cv_X12_clock_68 (g : cw_G) (n : Nat) (I : Nat → Nat → Int32) (A : Nat → Nat → Int32) (J : Nat → Nat → Int64) (t : Bool × Bool) (x1 : Int32) : Cd g mX12_clock [(.ref (cw_z g + 68)), (.int x1)] (hp g I A J t) (some (.int (px_X12_clock_68 n I A J t x1))) (hp g (pI_X12_clock_68 n I A J t x1) A J t) := by
  unfold px_X12_clock_68 pI_X12_clock_68
  refine Cd.of rfl (Nat.le_of_ble_eq_true rfl) (ev_gen (fun Q hQ => ?_))
  refine ev_iload_n (pc := 0) dX12_clock_0 rfl ?_
  refine ev_aload_n (pc := 1) dX12_clock_1 rfl ?_
  refine tv_geti (pc := 2) dX12_clock_2 fl_X12_301 (by decide) rfl rfl ?_
  refine ev_icmp_lt (pc := 5) (tgt := 15) dX12_clock_5 (by decide) (fun c_5 => ?_) (fun c_5 => ?_)
  · try simp only [if_pos c_5] at hQ
    refine ev_iconst (pc := 15) (v := 0) dX12_clock_15 (by decide) ?_
    exact ev_zret (pc := 16) dX12_clock_16 rfl rfl (by decide) (by decide) (hQ _ _ ⟨rfl, rfl⟩)
  · try simp only [if_neg c_5] at hQ
    refine ev_iload_n (pc := 8) dX12_clock_8 rfl ?_
    refine ev_Si (pc := 9) dX12_clock_9 lk_X12_304 cd_X12_isDay ar_X12_isDay ⟨by decide, rfl, rfl⟩ (cv_X12_isDay g n I A J t x1) rfl rfl (Nat.le_of_ble_eq_true rfl) ⟨by decide, by decide⟩ ?_
    refine ev_if_ne (pc := 12) (tgt := 17) dX12_clock_12 (by decide) (fun c_12 => ?_) (fun c_12 => ?_)
    · try simp only [if_neg c_12] at hQ
      refine ev_aload_n (pc := 17) dX12_clock_17 rfl ?_
      refine ev_iload_n (pc := 18) dX12_clock_18 rfl ?_
      refine tw_puti (pc := 19) (I2 := (qI19_X12_clock_68 n I A J t x1)) dX12_clock_19 fp_X12_301 (by decide) rfl rfl rfl ?_
      refine ev_iconst (pc := 22) (v := 1) dX12_clock_22 (by decide) ?_
      exact ev_zret (pc := 23) dX12_clock_23 rfl rfl (by decide) (by decide) (hQ _ _ ⟨rfl, rfl⟩)
    · try simp only [if_pos c_12] at hQ
      refine ev_iconst (pc := 15) (v := 0) dX12_clock_15 (by decide) ?_
      exact ev_zret (pc := 16) dX12_clock_16 rfl rfl (by decide) (by decide) (hQ _ _ ⟨rfl, rfl⟩)

theorem z1_X12_clock_68 (n : Nat) (I : Nat → Nat → Int32) (A : Nat → Nat → Int32) (J : Nat → Nat → Int64) (t : Bool × Bool) (x1 : Int32) : px_X12_clock_68 n I A J t x1 = 0 ∨ px_X12_clock_68 n I A J t x1 = 1 := (cw_ite (Or.inl rfl) (cw_ite (Or.inl rfl) (Or.inr rfl)))

def qA66_X12_report_68 (n : Nat) (I : Nat → Nat → Int32) (A : Nat → Nat → Int32) (J : Nat → Nat → Int64) (t : Bool × Bool) (x1 : Int32) (x2 : Int32) (x3 : Int32) (x4 : Int32) (x5 : Int32) : Nat → Nat → Int32 := cw_u A 99 ((I 68 50)).toNatClampNeg (vp_nar .boolean 0)
def qA79_X12_report_68 (n : Nat) (I : Nat → Nat → Int32) (A : Nat → Nat → Int32) (J : Nat → Nat → Int64) (t : Bool × Bool) (x1 : Int32) (x2 : Int32) (x3 : Int32) (x4 : Int32) (x5 : Int32) : Nat → Nat → Int32 := cw_u (qA66_X12_report_68 n I A J t x1 x2 x3 x4 x5) 100 ((I 68 50)).toNatClampNeg (I 68 49)
def qA89_X12_report_68 (n : Nat) (I : Nat → Nat → Int32) (A : Nat → Nat → Int32) (J : Nat → Nat → Int64) (t : Bool × Bool) (x1 : Int32) (x2 : Int32) (x3 : Int32) (x4 : Int32) (x5 : Int32) : Nat → Nat → Int32 := cw_u (qA79_X12_report_68 n I A J t x1 x2 x3 x4 x5) 101 ((I 68 50)).toNatClampNeg x1
def qA99_X12_report_68 (n : Nat) (I : Nat → Nat → Int32) (A : Nat → Nat → Int32) (J : Nat → Nat → Int64) (t : Bool × Bool) (x1 : Int32) (x2 : Int32) (x3 : Int32) (x4 : Int32) (x5 : Int32) : Nat → Nat → Int32 := cw_u (qA89_X12_report_68 n I A J t x1 x2 x3 x4 x5) 102 ((I 68 50)).toNatClampNeg x2
def qA109_X12_report_68 (n : Nat) (I : Nat → Nat → Int32) (A : Nat → Nat → Int32) (J : Nat → Nat → Int64) (t : Bool × Bool) (x1 : Int32) (x2 : Int32) (x3 : Int32) (x4 : Int32) (x5 : Int32) : Nat → Nat → Int32 := cw_u (qA99_X12_report_68 n I A J t x1 x2 x3 x4 x5) 103 ((I 68 50)).toNatClampNeg x3
def qA120_X12_report_68 (n : Nat) (I : Nat → Nat → Int32) (A : Nat → Nat → Int32) (J : Nat → Nat → Int64) (t : Bool × Bool) (x1 : Int32) (x2 : Int32) (x3 : Int32) (x4 : Int32) (x5 : Int32) : Nat → Nat → Int32 := cw_u (qA109_X12_report_68 n I A J t x1 x2 x3 x4 x5) 104 ((I 68 50)).toNatClampNeg x4
def qA131_X12_report_68 (n : Nat) (I : Nat → Nat → Int32) (A : Nat → Nat → Int32) (J : Nat → Nat → Int64) (t : Bool × Bool) (x1 : Int32) (x2 : Int32) (x3 : Int32) (x4 : Int32) (x5 : Int32) : Nat → Nat → Int32 := cw_u (qA120_X12_report_68 n I A J t x1 x2 x3 x4 x5) 106 ((I 68 50)).toNatClampNeg x5
def qI139_X12_report_68 (n : Nat) (I : Nat → Nat → Int32) (A : Nat → Nat → Int32) (J : Nat → Nat → Int64) (t : Bool × Bool) (x1 : Int32) (x2 : Int32) (x3 : Int32) (x4 : Int32) (x5 : Int32) : Nat → Nat → Int32 := cw_u I 68 50 ((I 68 50) + 1)
def pb_X12_report_68 (n : Nat) (I : Nat → Nat → Int32) (A : Nat → Nat → Int32) (J : Nat → Nat → Int64) (t : Bool × Bool) (x1 : Int32) (x2 : Int32) (x3 : Int32) (x4 : Int32) (x5 : Int32) : Prop := (¬ (I 68 50) = 300 → (¬ (px_X12_isSite_68 n I A J t x1) = 0 → (¬ (px_X12_isLand_68 n I A J t x2) = 0 → (¬ (px_X12_isBand n I A J t x3) = 0 → (¬ (px_X12_isHour n I A J t x4) = 0 → (¬ x5 < (-99) → (x5 ≤ 99 → vp_in (I 68 50) 300 ∧ vp_in (I 68 50) 300 ∧ vp_in (I 68 50) 300 ∧ vp_in (I 68 50) 300 ∧ vp_in (I 68 50) 300 ∧ vp_in (I 68 50) 300 ∧ vp_in (I 68 50) 300)))))))
def px_X12_report_68 (n : Nat) (I : Nat → Nat → Int32) (A : Nat → Nat → Int32) (J : Nat → Nat → Int64) (t : Bool × Bool) (x1 : Int32) (x2 : Int32) (x3 : Int32) (x4 : Int32) (x5 : Int32) : Int32 := (if (I 68 50) = 300 then (-1) else (if (px_X12_isSite_68 n I A J t x1) = 0 then (-1) else (if (px_X12_isLand_68 n I A J t x2) = 0 then (-1) else (if (px_X12_isBand n I A J t x3) = 0 then (-1) else (if (px_X12_isHour n I A J t x4) = 0 then (-1) else (if x5 < (-99) then (-1) else (if x5 ≤ 99 then (((qI139_X12_report_68 n I A J t x1 x2 x3 x4 x5) 68 50) - 1) else (-1))))))))
def pI_X12_report_68 (n : Nat) (I : Nat → Nat → Int32) (A : Nat → Nat → Int32) (J : Nat → Nat → Int64) (t : Bool × Bool) (x1 : Int32) (x2 : Int32) (x3 : Int32) (x4 : Int32) (x5 : Int32) : Nat → Nat → Int32 := (if (I 68 50) = 300 then I else (if (px_X12_isSite_68 n I A J t x1) = 0 then I else (if (px_X12_isLand_68 n I A J t x2) = 0 then I else (if (px_X12_isBand n I A J t x3) = 0 then I else (if (px_X12_isHour n I A J t x4) = 0 then I else (if x5 < (-99) then I else (if x5 ≤ 99 then (qI139_X12_report_68 n I A J t x1 x2 x3 x4 x5) else I)))))))
def pA_X12_report_68 (n : Nat) (I : Nat → Nat → Int32) (A : Nat → Nat → Int32) (J : Nat → Nat → Int64) (t : Bool × Bool) (x1 : Int32) (x2 : Int32) (x3 : Int32) (x4 : Int32) (x5 : Int32) : Nat → Nat → Int32 := (if (I 68 50) = 300 then A else (if (px_X12_isSite_68 n I A J t x1) = 0 then A else (if (px_X12_isLand_68 n I A J t x2) = 0 then A else (if (px_X12_isBand n I A J t x3) = 0 then A else (if (px_X12_isHour n I A J t x4) = 0 then A else (if x5 < (-99) then A else (if x5 ≤ 99 then (qA131_X12_report_68 n I A J t x1 x2 x3 x4 x5) else A)))))))
set_option maxRecDepth 100000 in
set_option maxHeartbeats 4000000 in
theorem cv_X12_report_68 (g : cw_G) (n : Nat) (I : Nat → Nat → Int32) (A : Nat → Nat → Int32) (J : Nat → Nat → Int64) (t : Bool × Bool) (x1 : Int32) (x2 : Int32) (x3 : Int32) (x4 : Int32) (x5 : Int32) (hb : pb_X12_report_68 n I A J t x1 x2 x3 x4 x5) : Cd g mX12_report [(.ref (cw_z g + 68)), (.int x1), (.int x2), (.int x3), (.int x4), (.int x5)] (hp g I A J t) (some (.int (px_X12_report_68 n I A J t x1 x2 x3 x4 x5))) (hp g (pI_X12_report_68 n I A J t x1 x2 x3 x4 x5) (pA_X12_report_68 n I A J t x1 x2 x3 x4 x5) J t) := by
  unfold pb_X12_report_68 at hb
  unfold px_X12_report_68 pI_X12_report_68 pA_X12_report_68
  refine Cd.of rfl (Nat.le_of_ble_eq_true rfl) (ev_gen (fun Q hQ => ?_))
  refine ev_aload_n (pc := 0) dX12_report_0 rfl ?_
  refine tv_geti (pc := 1) dX12_report_1 fl_X12_286 (by decide) rfl rfl ?_
  refine ev_sipush (pc := 4) (v := 300) dX12_report_4 (by decide) ?_
  have hF_7 := hb
  refine ev_icmp_eq (pc := 7) (tgt := 55) dX12_report_7 (by decide) (fun c_7 => ?_) (fun c_7 => ?_)
  · try simp only [if_pos c_7] at hQ
    refine ev_iconst (pc := 55) (v := (-1)) dX12_report_55 (by decide) ?_
    exact ev_iret (pc := 56) dX12_report_56 rfl (by decide) (by decide) (hQ _ _ ⟨rfl, rfl⟩)
  · have hb := hF_7 c_7
    try simp only [if_neg c_7] at hQ
    refine ev_aload_n (pc := 10) dX12_report_10 rfl ?_
    refine ev_iload_n (pc := 11) dX12_report_11 rfl ?_
    refine ev_Vi (pc := 12) dX12_report_12 lk_X12_292 cd_X12_isSite ar_X12_isSite ⟨by decide, rfl, rfl⟩ (cv_X12_isSite_68 g n I A J t x1) (show 68 < 120 by decide) rfl rfl rfl rfl (Nat.le_of_ble_eq_true rfl) ⟨by decide, by decide⟩ ?_
    have hF_15 := hb
    refine ev_if_eq (pc := 15) (tgt := 55) dX12_report_15 (by decide) (fun c_15 => ?_) (fun c_15 => ?_)
    · try simp only [if_pos c_15] at hQ
      refine ev_iconst (pc := 55) (v := (-1)) dX12_report_55 (by decide) ?_
      exact ev_iret (pc := 56) dX12_report_56 rfl (by decide) (by decide) (hQ _ _ ⟨rfl, rfl⟩)
    · have hb := hF_15 c_15
      try simp only [if_neg c_15] at hQ
      refine ev_aload_n (pc := 18) dX12_report_18 rfl ?_
      refine ev_iload_n (pc := 19) dX12_report_19 rfl ?_
      refine ev_Vi (pc := 20) dX12_report_20 lk_X12_298 cd_X12_isLand ar_X12_isLand ⟨by decide, rfl, rfl⟩ (cv_X12_isLand_68 g n I A J t x2) (show 68 < 120 by decide) rfl rfl rfl rfl (Nat.le_of_ble_eq_true rfl) ⟨by decide, by decide⟩ ?_
      have hF_23 := hb
      refine ev_if_eq (pc := 23) (tgt := 55) dX12_report_23 (by decide) (fun c_23 => ?_) (fun c_23 => ?_)
      · try simp only [if_pos c_23] at hQ
        refine ev_iconst (pc := 55) (v := (-1)) dX12_report_55 (by decide) ?_
        exact ev_iret (pc := 56) dX12_report_56 rfl (by decide) (by decide) (hQ _ _ ⟨rfl, rfl⟩)
      · have hb := hF_23 c_23
        try simp only [if_neg c_23] at hQ
        refine ev_iload_n (pc := 26) dX12_report_26 rfl ?_
        refine ev_Si (pc := 27) dX12_report_27 lk_X12_307 cd_X12_isBand ar_X12_isBand ⟨by decide, rfl, rfl⟩ (cv_X12_isBand g n I A J t x3) rfl rfl (Nat.le_of_ble_eq_true rfl) ⟨by decide, by decide⟩ ?_
        have hF_30 := hb
        refine ev_if_eq (pc := 30) (tgt := 55) dX12_report_30 (by decide) (fun c_30 => ?_) (fun c_30 => ?_)
        · try simp only [if_pos c_30] at hQ
          refine ev_iconst (pc := 55) (v := (-1)) dX12_report_55 (by decide) ?_
          exact ev_iret (pc := 56) dX12_report_56 rfl (by decide) (by decide) (hQ _ _ ⟨rfl, rfl⟩)
        · have hb := hF_30 c_30
          try simp only [if_neg c_30] at hQ
          refine ev_iload (pc := 33) dX12_report_33 rfl ?_
          refine ev_Si (pc := 35) dX12_report_35 lk_X12_310 cd_X12_isHour ar_X12_isHour ⟨by decide, rfl, rfl⟩ (cv_X12_isHour g n I A J t x4) rfl rfl (Nat.le_of_ble_eq_true rfl) ⟨by decide, by decide⟩ ?_
          have hF_38 := hb
          refine ev_if_eq (pc := 38) (tgt := 55) dX12_report_38 (by decide) (fun c_38 => ?_) (fun c_38 => ?_)
          · try simp only [if_pos c_38] at hQ
            refine ev_iconst (pc := 55) (v := (-1)) dX12_report_55 (by decide) ?_
            exact ev_iret (pc := 56) dX12_report_56 rfl (by decide) (by decide) (hQ _ _ ⟨rfl, rfl⟩)
          · have hb := hF_38 c_38
            try simp only [if_neg c_38] at hQ
            refine ev_iload (pc := 41) dX12_report_41 rfl ?_
            refine ev_bipush (pc := 43) (v := (-99)) dX12_report_43 (by decide) ?_
            have hF_45 := hb
            refine ev_icmp_lt (pc := 45) (tgt := 55) dX12_report_45 (by decide) (fun c_45 => ?_) (fun c_45 => ?_)
            · try simp only [if_pos c_45] at hQ
              refine ev_iconst (pc := 55) (v := (-1)) dX12_report_55 (by decide) ?_
              exact ev_iret (pc := 56) dX12_report_56 rfl (by decide) (by decide) (hQ _ _ ⟨rfl, rfl⟩)
            · have hb := hF_45 c_45
              try simp only [if_neg c_45] at hQ
              refine ev_iload (pc := 48) dX12_report_48 rfl ?_
              refine ev_bipush (pc := 50) (v := 99) dX12_report_50 (by decide) ?_
              have hT_52 := hb
              refine ev_icmp_le (pc := 52) (tgt := 57) dX12_report_52 (by decide) (fun c_52 => ?_) (fun c_52 => ?_)
              · have hb := hT_52 c_52
                try simp only [if_pos c_52] at hQ
                refine ev_aload_n (pc := 57) dX12_report_57 rfl ?_
                refine tv_getr (pc := 58) (d := 99) dX12_report_58 fl_X12_110 (by decide) rfl rfl ?_
                refine ev_aload_n (pc := 61) dX12_report_61 rfl ?_
                refine tv_geti (pc := 62) dX12_report_62 fl_X12_286 (by decide) rfl rfl ?_
                refine ev_iconst (pc := 65) (v := 0) dX12_report_65 (by decide) ?_
                refine tw_zast (pc := 66) (A2 := (qA66_X12_report_68 n I A J t x1 x2 x3 x4 x5)) dX12_report_66 (by decide) rfl hb.1 rfl ?_
                replace hb := hb.2
                refine ev_aload_n (pc := 67) dX12_report_67 rfl ?_
                refine tv_getr (pc := 68) (d := 100) dX12_report_68 fl_X12_113 (by decide) rfl rfl ?_
                refine ev_aload_n (pc := 71) dX12_report_71 rfl ?_
                refine tv_geti (pc := 72) dX12_report_72 fl_X12_286 (by decide) rfl rfl ?_
                refine ev_aload_n (pc := 75) dX12_report_75 rfl ?_
                refine tv_geti (pc := 76) dX12_report_76 fl_X12_301 (by decide) rfl rfl ?_
                refine tw_iast (pc := 79) (A2 := (qA79_X12_report_68 n I A J t x1 x2 x3 x4 x5)) dX12_report_79 (by decide) rfl hb.1 rfl ?_
                replace hb := hb.2
                refine ev_aload_n (pc := 80) dX12_report_80 rfl ?_
                refine tv_getr (pc := 81) (d := 101) dX12_report_81 fl_X12_116 (by decide) rfl rfl ?_
                refine ev_aload_n (pc := 84) dX12_report_84 rfl ?_
                refine tv_geti (pc := 85) dX12_report_85 fl_X12_286 (by decide) rfl rfl ?_
                refine ev_iload_n (pc := 88) dX12_report_88 rfl ?_
                refine tw_iast (pc := 89) (A2 := (qA89_X12_report_68 n I A J t x1 x2 x3 x4 x5)) dX12_report_89 (by decide) rfl hb.1 rfl ?_
                replace hb := hb.2
                refine ev_aload_n (pc := 90) dX12_report_90 rfl ?_
                refine tv_getr (pc := 91) (d := 102) dX12_report_91 fl_X12_119 (by decide) rfl rfl ?_
                refine ev_aload_n (pc := 94) dX12_report_94 rfl ?_
                refine tv_geti (pc := 95) dX12_report_95 fl_X12_286 (by decide) rfl rfl ?_
                refine ev_iload_n (pc := 98) dX12_report_98 rfl ?_
                refine tw_iast (pc := 99) (A2 := (qA99_X12_report_68 n I A J t x1 x2 x3 x4 x5)) dX12_report_99 (by decide) rfl hb.1 rfl ?_
                replace hb := hb.2
                refine ev_aload_n (pc := 100) dX12_report_100 rfl ?_
                refine tv_getr (pc := 101) (d := 103) dX12_report_101 fl_X12_122 (by decide) rfl rfl ?_
                refine ev_aload_n (pc := 104) dX12_report_104 rfl ?_
                refine tv_geti (pc := 105) dX12_report_105 fl_X12_286 (by decide) rfl rfl ?_
                refine ev_iload_n (pc := 108) dX12_report_108 rfl ?_
                refine tw_iast (pc := 109) (A2 := (qA109_X12_report_68 n I A J t x1 x2 x3 x4 x5)) dX12_report_109 (by decide) rfl hb.1 rfl ?_
                replace hb := hb.2
                refine ev_aload_n (pc := 110) dX12_report_110 rfl ?_
                refine tv_getr (pc := 111) (d := 104) dX12_report_111 fl_X12_125 (by decide) rfl rfl ?_
                refine ev_aload_n (pc := 114) dX12_report_114 rfl ?_
                refine tv_geti (pc := 115) dX12_report_115 fl_X12_286 (by decide) rfl rfl ?_
                refine ev_iload (pc := 118) dX12_report_118 rfl ?_
                refine tw_iast (pc := 120) (A2 := (qA120_X12_report_68 n I A J t x1 x2 x3 x4 x5)) dX12_report_120 (by decide) rfl hb.1 rfl ?_
                replace hb := hb.2
                refine ev_aload_n (pc := 121) dX12_report_121 rfl ?_
                refine tv_getr (pc := 122) (d := 106) dX12_report_122 fl_X12_131 (by decide) rfl rfl ?_
                refine ev_aload_n (pc := 125) dX12_report_125 rfl ?_
                refine tv_geti (pc := 126) dX12_report_126 fl_X12_286 (by decide) rfl rfl ?_
                refine ev_iload (pc := 129) dX12_report_129 rfl ?_
                refine tw_iast (pc := 131) (A2 := (qA131_X12_report_68 n I A J t x1 x2 x3 x4 x5)) dX12_report_131 (by decide) rfl hb rfl ?_
                refine ev_aload_n (pc := 132) dX12_report_132 rfl ?_
                refine ev_dup (pc := 133) dX12_report_133 rfl ?_
                refine tv_geti (pc := 134) dX12_report_134 fl_X12_286 (by decide) rfl rfl ?_
                refine ev_iconst (pc := 137) (v := 1) dX12_report_137 (by decide) ?_
                refine ev_iadd (pc := 138) dX12_report_138 ?_
                refine tw_puti (pc := 139) (I2 := (qI139_X12_report_68 n I A J t x1 x2 x3 x4 x5)) dX12_report_139 fp_X12_286 (by decide) rfl rfl rfl ?_
                refine ev_aload_n (pc := 142) dX12_report_142 rfl ?_
                refine tv_geti (pc := 143) dX12_report_143 fl_X12_286 (by decide) rfl rfl ?_
                refine ev_iconst (pc := 146) (v := 1) dX12_report_146 (by decide) ?_
                refine ev_isub (pc := 147) dX12_report_147 ?_
                exact ev_iret (pc := 148) dX12_report_148 rfl (by decide) (by decide) (hQ _ _ ⟨rfl, rfl⟩)
              · try simp only [if_neg c_52] at hQ
                refine ev_iconst (pc := 55) (v := (-1)) dX12_report_55 (by decide) ?_
                exact ev_iret (pc := 56) dX12_report_56 rfl (by decide) (by decide) (hQ _ _ ⟨rfl, rfl⟩)

def qA60_X12_notice_68 (n : Nat) (I : Nat → Nat → Int32) (A : Nat → Nat → Int32) (J : Nat → Nat → Int64) (t : Bool × Bool) (x1 : Int32) (x2 : Int32) (x3 : Int32) (x4 : Int32) (x5 : Int32) : Nat → Nat → Int32 := cw_u A 99 ((I 68 50)).toNatClampNeg (vp_nar .boolean 1)
def qA71_X12_notice_68 (n : Nat) (I : Nat → Nat → Int32) (A : Nat → Nat → Int32) (J : Nat → Nat → Int64) (t : Bool × Bool) (x1 : Int32) (x2 : Int32) (x3 : Int32) (x4 : Int32) (x5 : Int32) : Nat → Nat → Int32 := cw_u (qA60_X12_notice_68 n I A J t x1 x2 x3 x4 x5) 100 ((I 68 50)).toNatClampNeg x5
def qA81_X12_notice_68 (n : Nat) (I : Nat → Nat → Int32) (A : Nat → Nat → Int32) (J : Nat → Nat → Int64) (t : Bool × Bool) (x1 : Int32) (x2 : Int32) (x3 : Int32) (x4 : Int32) (x5 : Int32) : Nat → Nat → Int32 := cw_u (qA71_X12_notice_68 n I A J t x1 x2 x3 x4 x5) 103 ((I 68 50)).toNatClampNeg x1
def qA91_X12_notice_68 (n : Nat) (I : Nat → Nat → Int32) (A : Nat → Nat → Int32) (J : Nat → Nat → Int64) (t : Bool × Bool) (x1 : Int32) (x2 : Int32) (x3 : Int32) (x4 : Int32) (x5 : Int32) : Nat → Nat → Int32 := cw_u (qA81_X12_notice_68 n I A J t x1 x2 x3 x4 x5) 104 ((I 68 50)).toNatClampNeg x2
def qA101_X12_notice_68 (n : Nat) (I : Nat → Nat → Int32) (A : Nat → Nat → Int32) (J : Nat → Nat → Int64) (t : Bool × Bool) (x1 : Int32) (x2 : Int32) (x3 : Int32) (x4 : Int32) (x5 : Int32) : Nat → Nat → Int32 := cw_u (qA91_X12_notice_68 n I A J t x1 x2 x3 x4 x5) 105 ((I 68 50)).toNatClampNeg x3
def qA112_X12_notice_68 (n : Nat) (I : Nat → Nat → Int32) (A : Nat → Nat → Int32) (J : Nat → Nat → Int64) (t : Bool × Bool) (x1 : Int32) (x2 : Int32) (x3 : Int32) (x4 : Int32) (x5 : Int32) : Nat → Nat → Int32 := cw_u (qA101_X12_notice_68 n I A J t x1 x2 x3 x4 x5) 102 ((I 68 50)).toNatClampNeg x4
def qI120_X12_notice_68 (n : Nat) (I : Nat → Nat → Int32) (A : Nat → Nat → Int32) (J : Nat → Nat → Int64) (t : Bool × Bool) (x1 : Int32) (x2 : Int32) (x3 : Int32) (x4 : Int32) (x5 : Int32) : Nat → Nat → Int32 := cw_u I 68 50 ((I 68 50) + 1)
def pb_X12_notice_68 (n : Nat) (I : Nat → Nat → Int32) (A : Nat → Nat → Int32) (J : Nat → Nat → Int64) (t : Bool × Bool) (x1 : Int32) (x2 : Int32) (x3 : Int32) (x4 : Int32) (x5 : Int32) : Prop := (¬ (I 68 50) = 300 → (¬ (px_X12_isBand n I A J t x1) = 0 → (¬ (px_X12_isLand_68 n I A J t x4) = 0 → (¬ (px_X12_isDay n I A J t x5) = 0 → (¬ x2 < 0 → (¬ x3 ≤ x2 → (x3 ≤ 24 → vp_in (I 68 50) 300 ∧ vp_in (I 68 50) 300 ∧ vp_in (I 68 50) 300 ∧ vp_in (I 68 50) 300 ∧ vp_in (I 68 50) 300 ∧ vp_in (I 68 50) 300)))))))
def px_X12_notice_68 (n : Nat) (I : Nat → Nat → Int32) (A : Nat → Nat → Int32) (J : Nat → Nat → Int64) (t : Bool × Bool) (x1 : Int32) (x2 : Int32) (x3 : Int32) (x4 : Int32) (x5 : Int32) : Int32 := (if (I 68 50) = 300 then (-1) else (if (px_X12_isBand n I A J t x1) = 0 then (-1) else (if (px_X12_isLand_68 n I A J t x4) = 0 then (-1) else (if (px_X12_isDay n I A J t x5) = 0 then (-1) else (if x2 < 0 then (-1) else (if x3 ≤ x2 then (-1) else (if x3 ≤ 24 then (((qI120_X12_notice_68 n I A J t x1 x2 x3 x4 x5) 68 50) - 1) else (-1))))))))
def pI_X12_notice_68 (n : Nat) (I : Nat → Nat → Int32) (A : Nat → Nat → Int32) (J : Nat → Nat → Int64) (t : Bool × Bool) (x1 : Int32) (x2 : Int32) (x3 : Int32) (x4 : Int32) (x5 : Int32) : Nat → Nat → Int32 := (if (I 68 50) = 300 then I else (if (px_X12_isBand n I A J t x1) = 0 then I else (if (px_X12_isLand_68 n I A J t x4) = 0 then I else (if (px_X12_isDay n I A J t x5) = 0 then I else (if x2 < 0 then I else (if x3 ≤ x2 then I else (if x3 ≤ 24 then (qI120_X12_notice_68 n I A J t x1 x2 x3 x4 x5) else I)))))))
def pA_X12_notice_68 (n : Nat) (I : Nat → Nat → Int32) (A : Nat → Nat → Int32) (J : Nat → Nat → Int64) (t : Bool × Bool) (x1 : Int32) (x2 : Int32) (x3 : Int32) (x4 : Int32) (x5 : Int32) : Nat → Nat → Int32 := (if (I 68 50) = 300 then A else (if (px_X12_isBand n I A J t x1) = 0 then A else (if (px_X12_isLand_68 n I A J t x4) = 0 then A else (if (px_X12_isDay n I A J t x5) = 0 then A else (if x2 < 0 then A else (if x3 ≤ x2 then A else (if x3 ≤ 24 then (qA112_X12_notice_68 n I A J t x1 x2 x3 x4 x5) else A)))))))
set_option maxRecDepth 100000 in
set_option maxHeartbeats 4000000 in
theorem cv_X12_notice_68 (g : cw_G) (n : Nat) (I : Nat → Nat → Int32) (A : Nat → Nat → Int32) (J : Nat → Nat → Int64) (t : Bool × Bool) (x1 : Int32) (x2 : Int32) (x3 : Int32) (x4 : Int32) (x5 : Int32) (hb : pb_X12_notice_68 n I A J t x1 x2 x3 x4 x5) : Cd g mX12_notice [(.ref (cw_z g + 68)), (.int x1), (.int x2), (.int x3), (.int x4), (.int x5)] (hp g I A J t) (some (.int (px_X12_notice_68 n I A J t x1 x2 x3 x4 x5))) (hp g (pI_X12_notice_68 n I A J t x1 x2 x3 x4 x5) (pA_X12_notice_68 n I A J t x1 x2 x3 x4 x5) J t) := by
  unfold pb_X12_notice_68 at hb
  unfold px_X12_notice_68 pI_X12_notice_68 pA_X12_notice_68
  refine Cd.of rfl (Nat.le_of_ble_eq_true rfl) (ev_gen (fun Q hQ => ?_))
  refine ev_aload_n (pc := 0) dX12_notice_0 rfl ?_
  refine tv_geti (pc := 1) dX12_notice_1 fl_X12_286 (by decide) rfl rfl ?_
  refine ev_sipush (pc := 4) (v := 300) dX12_notice_4 (by decide) ?_
  have hF_7 := hb
  refine ev_icmp_eq (pc := 7) (tgt := 49) dX12_notice_7 (by decide) (fun c_7 => ?_) (fun c_7 => ?_)
  · try simp only [if_pos c_7] at hQ
    refine ev_iconst (pc := 49) (v := (-1)) dX12_notice_49 (by decide) ?_
    exact ev_iret (pc := 50) dX12_notice_50 rfl (by decide) (by decide) (hQ _ _ ⟨rfl, rfl⟩)
  · have hb := hF_7 c_7
    try simp only [if_neg c_7] at hQ
    refine ev_iload_n (pc := 10) dX12_notice_10 rfl ?_
    refine ev_Si (pc := 11) dX12_notice_11 lk_X12_307 cd_X12_isBand ar_X12_isBand ⟨by decide, rfl, rfl⟩ (cv_X12_isBand g n I A J t x1) rfl rfl (Nat.le_of_ble_eq_true rfl) ⟨by decide, by decide⟩ ?_
    have hF_14 := hb
    refine ev_if_eq (pc := 14) (tgt := 49) dX12_notice_14 (by decide) (fun c_14 => ?_) (fun c_14 => ?_)
    · try simp only [if_pos c_14] at hQ
      refine ev_iconst (pc := 49) (v := (-1)) dX12_notice_49 (by decide) ?_
      exact ev_iret (pc := 50) dX12_notice_50 rfl (by decide) (by decide) (hQ _ _ ⟨rfl, rfl⟩)
    · have hb := hF_14 c_14
      try simp only [if_neg c_14] at hQ
      refine ev_aload_n (pc := 17) dX12_notice_17 rfl ?_
      refine ev_iload (pc := 18) dX12_notice_18 rfl ?_
      refine ev_Vi (pc := 20) dX12_notice_20 lk_X12_298 cd_X12_isLand ar_X12_isLand ⟨by decide, rfl, rfl⟩ (cv_X12_isLand_68 g n I A J t x4) (show 68 < 120 by decide) rfl rfl rfl rfl (Nat.le_of_ble_eq_true rfl) ⟨by decide, by decide⟩ ?_
      have hF_23 := hb
      refine ev_if_eq (pc := 23) (tgt := 49) dX12_notice_23 (by decide) (fun c_23 => ?_) (fun c_23 => ?_)
      · try simp only [if_pos c_23] at hQ
        refine ev_iconst (pc := 49) (v := (-1)) dX12_notice_49 (by decide) ?_
        exact ev_iret (pc := 50) dX12_notice_50 rfl (by decide) (by decide) (hQ _ _ ⟨rfl, rfl⟩)
      · have hb := hF_23 c_23
        try simp only [if_neg c_23] at hQ
        refine ev_iload (pc := 26) dX12_notice_26 rfl ?_
        refine ev_Si (pc := 28) dX12_notice_28 lk_X12_304 cd_X12_isDay ar_X12_isDay ⟨by decide, rfl, rfl⟩ (cv_X12_isDay g n I A J t x5) rfl rfl (Nat.le_of_ble_eq_true rfl) ⟨by decide, by decide⟩ ?_
        have hF_31 := hb
        refine ev_if_eq (pc := 31) (tgt := 49) dX12_notice_31 (by decide) (fun c_31 => ?_) (fun c_31 => ?_)
        · try simp only [if_pos c_31] at hQ
          refine ev_iconst (pc := 49) (v := (-1)) dX12_notice_49 (by decide) ?_
          exact ev_iret (pc := 50) dX12_notice_50 rfl (by decide) (by decide) (hQ _ _ ⟨rfl, rfl⟩)
        · have hb := hF_31 c_31
          try simp only [if_neg c_31] at hQ
          refine ev_iload_n (pc := 34) dX12_notice_34 rfl ?_
          have hF_35 := hb
          refine ev_if_lt (pc := 35) (tgt := 49) dX12_notice_35 (by decide) (fun c_35 => ?_) (fun c_35 => ?_)
          · try simp only [if_pos c_35] at hQ
            refine ev_iconst (pc := 49) (v := (-1)) dX12_notice_49 (by decide) ?_
            exact ev_iret (pc := 50) dX12_notice_50 rfl (by decide) (by decide) (hQ _ _ ⟨rfl, rfl⟩)
          · have hb := hF_35 c_35
            try simp only [if_neg c_35] at hQ
            refine ev_iload_n (pc := 38) dX12_notice_38 rfl ?_
            refine ev_iload_n (pc := 39) dX12_notice_39 rfl ?_
            have hF_40 := hb
            refine ev_icmp_ge (pc := 40) (tgt := 49) dX12_notice_40 (by decide) (fun c_40 => ?_) (fun c_40 => ?_)
            · try simp only [if_pos c_40] at hQ
              refine ev_iconst (pc := 49) (v := (-1)) dX12_notice_49 (by decide) ?_
              exact ev_iret (pc := 50) dX12_notice_50 rfl (by decide) (by decide) (hQ _ _ ⟨rfl, rfl⟩)
            · have hb := hF_40 c_40
              try simp only [if_neg c_40] at hQ
              refine ev_iload_n (pc := 43) dX12_notice_43 rfl ?_
              refine ev_bipush (pc := 44) (v := 24) dX12_notice_44 (by decide) ?_
              have hT_46 := hb
              refine ev_icmp_le (pc := 46) (tgt := 51) dX12_notice_46 (by decide) (fun c_46 => ?_) (fun c_46 => ?_)
              · have hb := hT_46 c_46
                try simp only [if_pos c_46] at hQ
                refine ev_aload_n (pc := 51) dX12_notice_51 rfl ?_
                refine tv_getr (pc := 52) (d := 99) dX12_notice_52 fl_X12_110 (by decide) rfl rfl ?_
                refine ev_aload_n (pc := 55) dX12_notice_55 rfl ?_
                refine tv_geti (pc := 56) dX12_notice_56 fl_X12_286 (by decide) rfl rfl ?_
                refine ev_iconst (pc := 59) (v := 1) dX12_notice_59 (by decide) ?_
                refine tw_zast (pc := 60) (A2 := (qA60_X12_notice_68 n I A J t x1 x2 x3 x4 x5)) dX12_notice_60 (by decide) rfl hb.1 rfl ?_
                replace hb := hb.2
                refine ev_aload_n (pc := 61) dX12_notice_61 rfl ?_
                refine tv_getr (pc := 62) (d := 100) dX12_notice_62 fl_X12_113 (by decide) rfl rfl ?_
                refine ev_aload_n (pc := 65) dX12_notice_65 rfl ?_
                refine tv_geti (pc := 66) dX12_notice_66 fl_X12_286 (by decide) rfl rfl ?_
                refine ev_iload (pc := 69) dX12_notice_69 rfl ?_
                refine tw_iast (pc := 71) (A2 := (qA71_X12_notice_68 n I A J t x1 x2 x3 x4 x5)) dX12_notice_71 (by decide) rfl hb.1 rfl ?_
                replace hb := hb.2
                refine ev_aload_n (pc := 72) dX12_notice_72 rfl ?_
                refine tv_getr (pc := 73) (d := 103) dX12_notice_73 fl_X12_122 (by decide) rfl rfl ?_
                refine ev_aload_n (pc := 76) dX12_notice_76 rfl ?_
                refine tv_geti (pc := 77) dX12_notice_77 fl_X12_286 (by decide) rfl rfl ?_
                refine ev_iload_n (pc := 80) dX12_notice_80 rfl ?_
                refine tw_iast (pc := 81) (A2 := (qA81_X12_notice_68 n I A J t x1 x2 x3 x4 x5)) dX12_notice_81 (by decide) rfl hb.1 rfl ?_
                replace hb := hb.2
                refine ev_aload_n (pc := 82) dX12_notice_82 rfl ?_
                refine tv_getr (pc := 83) (d := 104) dX12_notice_83 fl_X12_125 (by decide) rfl rfl ?_
                refine ev_aload_n (pc := 86) dX12_notice_86 rfl ?_
                refine tv_geti (pc := 87) dX12_notice_87 fl_X12_286 (by decide) rfl rfl ?_
                refine ev_iload_n (pc := 90) dX12_notice_90 rfl ?_
                refine tw_iast (pc := 91) (A2 := (qA91_X12_notice_68 n I A J t x1 x2 x3 x4 x5)) dX12_notice_91 (by decide) rfl hb.1 rfl ?_
                replace hb := hb.2
                refine ev_aload_n (pc := 92) dX12_notice_92 rfl ?_
                refine tv_getr (pc := 93) (d := 105) dX12_notice_93 fl_X12_128 (by decide) rfl rfl ?_
                refine ev_aload_n (pc := 96) dX12_notice_96 rfl ?_
                refine tv_geti (pc := 97) dX12_notice_97 fl_X12_286 (by decide) rfl rfl ?_
                refine ev_iload_n (pc := 100) dX12_notice_100 rfl ?_
                refine tw_iast (pc := 101) (A2 := (qA101_X12_notice_68 n I A J t x1 x2 x3 x4 x5)) dX12_notice_101 (by decide) rfl hb.1 rfl ?_
                replace hb := hb.2
                refine ev_aload_n (pc := 102) dX12_notice_102 rfl ?_
                refine tv_getr (pc := 103) (d := 102) dX12_notice_103 fl_X12_119 (by decide) rfl rfl ?_
                refine ev_aload_n (pc := 106) dX12_notice_106 rfl ?_
                refine tv_geti (pc := 107) dX12_notice_107 fl_X12_286 (by decide) rfl rfl ?_
                refine ev_iload (pc := 110) dX12_notice_110 rfl ?_
                refine tw_iast (pc := 112) (A2 := (qA112_X12_notice_68 n I A J t x1 x2 x3 x4 x5)) dX12_notice_112 (by decide) rfl hb rfl ?_
                refine ev_aload_n (pc := 113) dX12_notice_113 rfl ?_
                refine ev_dup (pc := 114) dX12_notice_114 rfl ?_
                refine tv_geti (pc := 115) dX12_notice_115 fl_X12_286 (by decide) rfl rfl ?_
                refine ev_iconst (pc := 118) (v := 1) dX12_notice_118 (by decide) ?_
                refine ev_iadd (pc := 119) dX12_notice_119 ?_
                refine tw_puti (pc := 120) (I2 := (qI120_X12_notice_68 n I A J t x1 x2 x3 x4 x5)) dX12_notice_120 fp_X12_286 (by decide) rfl rfl rfl ?_
                refine ev_aload_n (pc := 123) dX12_notice_123 rfl ?_
                refine tv_geti (pc := 124) dX12_notice_124 fl_X12_286 (by decide) rfl rfl ?_
                refine ev_iconst (pc := 127) (v := 1) dX12_notice_127 (by decide) ?_
                refine ev_isub (pc := 128) dX12_notice_128 ?_
                exact ev_iret (pc := 129) dX12_notice_129 rfl (by decide) (by decide) (hQ _ _ ⟨rfl, rfl⟩)
              · try simp only [if_neg c_46] at hQ
                refine ev_iconst (pc := 49) (v := (-1)) dX12_notice_49 (by decide) ?_
                exact ev_iret (pc := 50) dX12_notice_50 rfl (by decide) (by decide) (hQ _ _ ⟨rfl, rfl⟩)

def qs0m7_X12_far_68 (n : Nat) (I : Nat → Nat → Int32) (A : Nat → Nat → Int32) (J : Nat → Nat → Int64) (t : Bool × Bool) : Int32 := if 4 ≤ ((I 68 59) / 5) then 4 else ((I 68 59) / 5)
def px_X12_far_68 (n : Nat) (I : Nat → Nat → Int32) (A : Nat → Nat → Int32) (J : Nat → Nat → Int64) (t : Bool × Bool) : Int32 := (qs0m7_X12_far_68 n I A J t)
set_option maxRecDepth 100000 in
set_option maxHeartbeats 4000000 in
theorem cv_X12_far_68 (g : cw_G) (n : Nat) (I : Nat → Nat → Int32) (A : Nat → Nat → Int32) (J : Nat → Nat → Int64) (t : Bool × Bool) : Cd g mX12_far [(.ref (cw_z g + 68))] (hp g I A J t) (some (.int (px_X12_far_68 n I A J t))) (hp g I A J t) := by
  unfold px_X12_far_68
  refine Cd.of rfl (Nat.le_of_ble_eq_true rfl) (ev_gen (fun Q hQ => ?_))
  refine ev_aload_n (pc := 0) dX12_far_0 rfl ?_
  refine tv_geti (pc := 1) dX12_far_1 fl_X12_313 (by decide) rfl rfl ?_
  refine ev_iconst (pc := 4) (v := 5) dX12_far_4 (by decide) ?_
  refine ev_idiv (pc := 5) dX12_far_5 (by decide) ?_
  refine ev_iconst (pc := 6) (v := 4) dX12_far_6 (by decide) ?_
  refine ev_cut (pj := 20) (Lj := [some (.ref (cw_z g + 68))]) (stj := [(.int (qs0m7_X12_far_68 n I A J t))]) (σj := hp g I A J t) ?_ (fun hJ_7 => ?_)
  rotate_left
  · refine ev_icmp_ge (pc := 7) (tgt := 19) dX12_far_7 (by decide) (fun c_7 => ?_) (fun c_7 => ?_)
    · refine ev_iconst (pc := 19) (v := 4) dX12_far_19 (by decide) ?_
      simp only [qs0m7_X12_far_68, if_pos c_7] at hJ_7
      exact ev_loc hJ_7 cw_le0
    · refine ev_aload_n (pc := 10) dX12_far_10 rfl ?_
      refine tv_geti (pc := 11) dX12_far_11 fl_X12_313 (by decide) rfl rfl ?_
      refine ev_iconst (pc := 14) (v := 5) dX12_far_14 (by decide) ?_
      refine ev_idiv (pc := 15) dX12_far_15 (by decide) ?_
      refine ev_goto (pc := 16) (tgt := 20) dX12_far_16 (by decide) ?_
      simp only [qs0m7_X12_far_68, if_neg c_7] at hJ_7
      exact ev_loc hJ_7 cw_le0
  exact ev_iret (pc := 20) dX12_far_20 rfl (by decide) (by decide) (hQ _ _ ⟨rfl, rfl⟩)

def q19_X12_goes_68 (n : Nat) (I : Nat → Nat → Int32) (A : Nat → Nat → Int32) (J : Nat → Nat → Int64) (t : Bool × Bool) (x1 : Int32) (x2 : Int32) : Int32 := (cw_rem (((A 89 (x2).toNatClampNeg) - (A 89 (x1).toNatClampNeg)) + 24) 24)
def qs0m23_X12_goes_68 (n : Nat) (I : Nat → Nat → Int32) (A : Nat → Nat → Int32) (J : Nat → Nat → Int64) (t : Bool × Bool) (x1 : Int32) (x2 : Int32) : Int32 := if (q19_X12_goes_68 n I A J t x1 x2) ≤ 12 then (q19_X12_goes_68 n I A J t x1 x2) else ((24 : Int32) - (q19_X12_goes_68 n I A J t x1 x2))
def qs0m48_X12_goes_68 (n : Nat) (I : Nat → Nat → Int32) (A : Nat → Nat → Int32) (J : Nat → Nat → Int64) (t : Bool × Bool) (x1 : Int32) (x2 : Int32) : Int32 := if (A 90 (x2).toNatClampNeg) ≤ (A 90 (x1).toNatClampNeg) then ((A 90 (x1).toNatClampNeg) - (A 90 (x2).toNatClampNeg)) else ((A 90 (x2).toNatClampNeg) - (A 90 (x1).toNatClampNeg))
def q103_X12_goes_68 (n : Nat) (I : Nat → Nat → Int32) (A : Nat → Nat → Int32) (J : Nat → Nat → Int64) (t : Bool × Bool) (x1 : Int32) (x2 : Int32) : Int32 := (((((A 90 (x1).toNatClampNeg) + (A 90 (x2).toNatClampNeg)) + 1) + 12) - (qs0m23_X12_goes_68 n I A J t x1 x2))
def q129_X12_goes_68 (n : Nat) (I : Nat → Nat → Int32) (A : Nat → Nat → Int32) (J : Nat → Nat → Int64) (t : Bool × Bool) (x1 : Int32) (x2 : Int32) : Int32 := ((((((12 : Int32) - (A 90 (x1).toNatClampNeg)) - (A 90 (x2).toNatClampNeg)) + 1) + 12) - (qs0m23_X12_goes_68 n I A J t x1 x2))
def qI137_X12_goes_68 (n : Nat) (I : Nat → Nat → Int32) (A : Nat → Nat → Int32) (J : Nat → Nat → Int64) (t : Bool × Bool) (x1 : Int32) (x2 : Int32) : Nat → Nat → Int32 := cw_u I 68 59 ((qs0m23_X12_goes_68 n I A J t x1 x2) + (qs0m48_X12_goes_68 n I A J t x1 x2))
def qI142_X12_goes_68 (n : Nat) (I : Nat → Nat → Int32) (A : Nat → Nat → Int32) (J : Nat → Nat → Int64) (t : Bool × Bool) (x1 : Int32) (x2 : Int32) : Nat → Nat → Int32 := cw_u (qI137_X12_goes_68 n I A J t x1 x2) 68 60 0
def qI157_X12_goes_68 (n : Nat) (I : Nat → Nat → Int32) (A : Nat → Nat → Int32) (J : Nat → Nat → Int64) (t : Bool × Bool) (x1 : Int32) (x2 : Int32) : Nat → Nat → Int32 := cw_u (qI142_X12_goes_68 n I A J t x1 x2) 68 59 (q103_X12_goes_68 n I A J t x1 x2)
def qI162_X12_goes_68 (n : Nat) (I : Nat → Nat → Int32) (A : Nat → Nat → Int32) (J : Nat → Nat → Int64) (t : Bool × Bool) (x1 : Int32) (x2 : Int32) : Nat → Nat → Int32 := cw_u (qI157_X12_goes_68 n I A J t x1 x2) 68 60 1
def qIm151_X12_goes_68 (n : Nat) (I : Nat → Nat → Int32) (A : Nat → Nat → Int32) (J : Nat → Nat → Int64) (t : Bool × Bool) (x1 : Int32) (x2 : Int32) : Nat → Nat → Int32 := if ((qI142_X12_goes_68 n I A J t x1 x2) 68 59) ≤ (q103_X12_goes_68 n I A J t x1 x2) then (qI142_X12_goes_68 n I A J t x1 x2) else (qI162_X12_goes_68 n I A J t x1 x2)
def qI177_X12_goes_68 (n : Nat) (I : Nat → Nat → Int32) (A : Nat → Nat → Int32) (J : Nat → Nat → Int64) (t : Bool × Bool) (x1 : Int32) (x2 : Int32) : Nat → Nat → Int32 := cw_u (qIm151_X12_goes_68 n I A J t x1 x2) 68 59 (q129_X12_goes_68 n I A J t x1 x2)
def qI182_X12_goes_68 (n : Nat) (I : Nat → Nat → Int32) (A : Nat → Nat → Int32) (J : Nat → Nat → Int64) (t : Bool × Bool) (x1 : Int32) (x2 : Int32) : Nat → Nat → Int32 := cw_u (qI177_X12_goes_68 n I A J t x1 x2) 68 60 2
def qIm171_X12_goes_68 (n : Nat) (I : Nat → Nat → Int32) (A : Nat → Nat → Int32) (J : Nat → Nat → Int64) (t : Bool × Bool) (x1 : Int32) (x2 : Int32) : Nat → Nat → Int32 := if ((qIm151_X12_goes_68 n I A J t x1 x2) 68 59) ≤ (q129_X12_goes_68 n I A J t x1 x2) then (qIm151_X12_goes_68 n I A J t x1 x2) else (qI182_X12_goes_68 n I A J t x1 x2)
def qs1m191_X12_goes_68 (n : Nat) (I : Nat → Nat → Int32) (A : Nat → Nat → Int32) (J : Nat → Nat → Int64) (t : Bool × Bool) (x1 : Int32) (x2 : Int32) : Int32 := if ((qIm171_X12_goes_68 n I A J t x1 x2) 68 60) = 2 then 4 else 0
def qI199_X12_goes_68 (n : Nat) (I : Nat → Nat → Int32) (A : Nat → Nat → Int32) (J : Nat → Nat → Int64) (t : Bool × Bool) (x1 : Int32) (x2 : Int32) : Nat → Nat → Int32 := cw_u (qIm171_X12_goes_68 n I A J t x1 x2) 68 61 (qs1m191_X12_goes_68 n I A J t x1 x2)
def qs0m221_X12_goes_68 (n : Nat) (I : Nat → Nat → Int32) (A : Nat → Nat → Int32) (J : Nat → Nat → Int64) (t : Bool × Bool) (x1 : Int32) (x2 : Int32) : Int32 := if 12 < (q19_X12_goes_68 n I A J t x1 x2) then 2 else 1
def qs0m211_X12_goes_68 (n : Nat) (I : Nat → Nat → Int32) (A : Nat → Nat → Int32) (J : Nat → Nat → Int64) (t : Bool × Bool) (x1 : Int32) (x2 : Int32) : Int32 := if (q19_X12_goes_68 n I A J t x1 x2) = 0 then 0 else (qs0m221_X12_goes_68 n I A J t x1 x2)
def qs0m262_X12_goes_68 (n : Nat) (I : Nat → Nat → Int32) (A : Nat → Nat → Int32) (J : Nat → Nat → Int64) (t : Bool × Bool) (x1 : Int32) (x2 : Int32) : Int32 := if (A 90 (x2).toNatClampNeg) ≤ (A 90 (x1).toNatClampNeg) then 0 else 2
def qs0m243_X12_goes_68 (n : Nat) (I : Nat → Nat → Int32) (A : Nat → Nat → Int32) (J : Nat → Nat → Int64) (t : Bool × Bool) (x1 : Int32) (x2 : Int32) : Int32 := if (A 90 (x1).toNatClampNeg) ≤ (A 90 (x2).toNatClampNeg) then (qs0m262_X12_goes_68 n I A J t x1 x2) else 1
def qs1m344_X12_goes_68 (n : Nat) (I : Nat → Nat → Int32) (A : Nat → Nat → Int32) (J : Nat → Nat → Int64) (t : Bool × Bool) (x1 : Int32) (x2 : Int32) : Int32 := if (qs0m243_X12_goes_68 n I A J t x1 x2) = 2 then 5 else 6
def qs1m333_X12_goes_68 (n : Nat) (I : Nat → Nat → Int32) (A : Nat → Nat → Int32) (J : Nat → Nat → Int64) (t : Bool × Bool) (x1 : Int32) (x2 : Int32) : Int32 := if (qs0m243_X12_goes_68 n I A J t x1 x2) = 1 then 7 else (qs1m344_X12_goes_68 n I A J t x1 x2)
def qI353_X12_goes_68 (n : Nat) (I : Nat → Nat → Int32) (A : Nat → Nat → Int32) (J : Nat → Nat → Int64) (t : Bool × Bool) (x1 : Int32) (x2 : Int32) : Nat → Nat → Int32 := cw_u (qI199_X12_goes_68 n I A J t x1 x2) 68 61 (qs1m333_X12_goes_68 n I A J t x1 x2)
def qs1m315_X12_goes_68 (n : Nat) (I : Nat → Nat → Int32) (A : Nat → Nat → Int32) (J : Nat → Nat → Int64) (t : Bool × Bool) (x1 : Int32) (x2 : Int32) : Int32 := if (qs0m243_X12_goes_68 n I A J t x1 x2) = 2 then 3 else 2
def qs1m305_X12_goes_68 (n : Nat) (I : Nat → Nat → Int32) (A : Nat → Nat → Int32) (J : Nat → Nat → Int64) (t : Bool × Bool) (x1 : Int32) (x2 : Int32) : Int32 := if (qs0m243_X12_goes_68 n I A J t x1 x2) = 1 then 1 else (qs1m315_X12_goes_68 n I A J t x1 x2)
def qI323_X12_goes_68 (n : Nat) (I : Nat → Nat → Int32) (A : Nat → Nat → Int32) (J : Nat → Nat → Int64) (t : Bool × Bool) (x1 : Int32) (x2 : Int32) : Nat → Nat → Int32 := cw_u (qI199_X12_goes_68 n I A J t x1 x2) 68 61 (qs1m305_X12_goes_68 n I A J t x1 x2)
def qIm298_X12_goes_68 (n : Nat) (I : Nat → Nat → Int32) (A : Nat → Nat → Int32) (J : Nat → Nat → Int64) (t : Bool × Bool) (x1 : Int32) (x2 : Int32) : Nat → Nat → Int32 := if (qs0m211_X12_goes_68 n I A J t x1 x2) = 1 then (qI323_X12_goes_68 n I A J t x1 x2) else (qI353_X12_goes_68 n I A J t x1 x2)
def qs1m281_X12_goes_68 (n : Nat) (I : Nat → Nat → Int32) (A : Nat → Nat → Int32) (J : Nat → Nat → Int64) (t : Bool × Bool) (x1 : Int32) (x2 : Int32) : Int32 := if (qs0m243_X12_goes_68 n I A J t x1 x2) = 2 then 4 else 0
def qI289_X12_goes_68 (n : Nat) (I : Nat → Nat → Int32) (A : Nat → Nat → Int32) (J : Nat → Nat → Int64) (t : Bool × Bool) (x1 : Int32) (x2 : Int32) : Nat → Nat → Int32 := cw_u (qI199_X12_goes_68 n I A J t x1 x2) 68 61 (qs1m281_X12_goes_68 n I A J t x1 x2)
def qIm274_X12_goes_68 (n : Nat) (I : Nat → Nat → Int32) (A : Nat → Nat → Int32) (J : Nat → Nat → Int64) (t : Bool × Bool) (x1 : Int32) (x2 : Int32) : Nat → Nat → Int32 := if (qs0m211_X12_goes_68 n I A J t x1 x2) = 0 then (qI289_X12_goes_68 n I A J t x1 x2) else (qIm298_X12_goes_68 n I A J t x1 x2)
def pb_X12_goes_68 (n : Nat) (I : Nat → Nat → Int32) (A : Nat → Nat → Int32) (J : Nat → Nat → Int64) (t : Bool × Bool) (x1 : Int32) (x2 : Int32) : Prop := vp_in x2 12 ∧ vp_in x1 12 ∧ vp_in x2 12 ∧ vp_in x1 12 ∧ ((A 90 (x2).toNatClampNeg) ≤ (A 90 (x1).toNatClampNeg) → vp_in x1 12 ∧ vp_in x2 12) ∧ (¬ (A 90 (x2).toNatClampNeg) ≤ (A 90 (x1).toNatClampNeg) → vp_in x2 12 ∧ vp_in x1 12) ∧ vp_in x1 12 ∧ vp_in x2 12 ∧ vp_in x1 12 ∧ vp_in x2 12 ∧ (((qI199_X12_goes_68 n I A J t x1 x2) 68 60) ≤ 0 → vp_in x2 12 ∧ vp_in x1 12 ∧ ((A 90 (x1).toNatClampNeg) ≤ (A 90 (x2).toNatClampNeg) → vp_in x2 12 ∧ vp_in x1 12))
def pI_X12_goes_68 (n : Nat) (I : Nat → Nat → Int32) (A : Nat → Nat → Int32) (J : Nat → Nat → Int64) (t : Bool × Bool) (x1 : Int32) (x2 : Int32) : Nat → Nat → Int32 := (if ((qI199_X12_goes_68 n I A J t x1 x2) 68 60) ≤ 0 then (qIm274_X12_goes_68 n I A J t x1 x2) else (qI199_X12_goes_68 n I A J t x1 x2))
set_option maxRecDepth 100000 in
set_option maxHeartbeats 4000000 in
theorem cv_X12_goes_68 (g : cw_G) (n : Nat) (I : Nat → Nat → Int32) (A : Nat → Nat → Int32) (J : Nat → Nat → Int64) (t : Bool × Bool) (x1 : Int32) (x2 : Int32) (hb : pb_X12_goes_68 n I A J t x1 x2) : Cd g mX12_goes [(.ref (cw_z g + 68)), (.int x1), (.int x2)] (hp g I A J t) none (hp g (pI_X12_goes_68 n I A J t x1 x2) A J t) := by
  unfold pb_X12_goes_68 at hb
  unfold pI_X12_goes_68
  refine Cd.of rfl (Nat.le_of_ble_eq_true rfl) (ev_gen (fun Q hQ => ?_))
  refine ev_aload_n (pc := 0) dX12_goes_0 rfl ?_
  refine tv_getr (pc := 1) (d := 89) dX12_goes_1 fl_X12_80 (by decide) rfl rfl ?_
  refine ev_iload_n (pc := 4) dX12_goes_4 rfl ?_
  refine ev_iald (pc := 5) dX12_goes_5 (by decide) rfl hb.1 ?_
  replace hb := hb.2
  refine ev_aload_n (pc := 6) dX12_goes_6 rfl ?_
  refine tv_getr (pc := 7) (d := 89) dX12_goes_7 fl_X12_80 (by decide) rfl rfl ?_
  refine ev_iload_n (pc := 10) dX12_goes_10 rfl ?_
  refine ev_iald (pc := 11) dX12_goes_11 (by decide) rfl hb.1 ?_
  replace hb := hb.2
  refine ev_isub (pc := 12) dX12_goes_12 ?_
  refine ev_bipush (pc := 13) (v := 24) dX12_goes_13 (by decide) ?_
  refine ev_iadd (pc := 15) dX12_goes_15 ?_
  refine ev_bipush (pc := 16) (v := 24) dX12_goes_16 (by decide) ?_
  refine ev_rem (pc := 18) dX12_goes_18 (by decide) ?_
  refine ev_is (y := (q19_X12_goes_68 n I A J t x1 x2)) rfl ?_
  refine ev_istore_3 (pc := 19) dX12_goes_19 (by decide) rfl ?_
  refine ev_iload_n (pc := 20) dX12_goes_20 rfl ?_
  refine ev_bipush (pc := 21) (v := 12) dX12_goes_21 (by decide) ?_
  refine ev_cut (pj := 34) (Lj := [some (.ref (cw_z g + 68)), some (.int x1), some (.int x2), some (.int (q19_X12_goes_68 n I A J t x1 x2)), none, none, none, none, none, none]) (stj := [(.int (qs0m23_X12_goes_68 n I A J t x1 x2))]) (σj := hp g I A J t) ?_ (fun hJ_23 => ?_)
  rotate_left
  · refine ev_icmp_le (pc := 23) (tgt := 33) dX12_goes_23 (by decide) (fun c_23 => ?_) (fun c_23 => ?_)
    · refine ev_iload_n (pc := 33) dX12_goes_33 rfl ?_
      simp only [qs0m23_X12_goes_68, if_pos c_23] at hJ_23
      exact ev_loc hJ_23 cw_le0
    · refine ev_bipush (pc := 26) (v := 24) dX12_goes_26 (by decide) ?_
      refine ev_iload_n (pc := 28) dX12_goes_28 rfl ?_
      refine ev_isub (pc := 29) dX12_goes_29 ?_
      refine ev_goto (pc := 30) (tgt := 34) dX12_goes_30 (by decide) ?_
      simp only [qs0m23_X12_goes_68, if_neg c_23] at hJ_23
      exact ev_loc hJ_23 cw_le0
  refine ev_istore_4 (pc := 34) dX12_goes_34 (by decide) rfl ?_
  refine ev_aload_n (pc := 36) dX12_goes_36 rfl ?_
  refine tv_getr (pc := 37) (d := 90) dX12_goes_37 fl_X12_83 (by decide) rfl rfl ?_
  refine ev_iload_n (pc := 40) dX12_goes_40 rfl ?_
  refine ev_iald (pc := 41) dX12_goes_41 (by decide) rfl hb.1 ?_
  replace hb := hb.2
  refine ev_aload_n (pc := 42) dX12_goes_42 rfl ?_
  refine tv_getr (pc := 43) (d := 90) dX12_goes_43 fl_X12_83 (by decide) rfl rfl ?_
  refine ev_iload_n (pc := 46) dX12_goes_46 rfl ?_
  refine ev_iald (pc := 47) dX12_goes_47 (by decide) rfl hb.1 ?_
  replace hb := hb.2
  obtain ⟨hT_48, hF_48, hb⟩ := hb
  refine ev_cut (pj := 80) (Lj := [some (.ref (cw_z g + 68)), some (.int x1), some (.int x2), some (.int (q19_X12_goes_68 n I A J t x1 x2)), some (.int (qs0m23_X12_goes_68 n I A J t x1 x2)), none, none, none, none, none]) (stj := [(.int (qs0m48_X12_goes_68 n I A J t x1 x2))]) (σj := hp g I A J t) ?_ (fun hJ_48 => ?_)
  rotate_left
  · refine ev_icmp_le (pc := 48) (tgt := 67) dX12_goes_48 (by decide) (fun c_48 => ?_) (fun c_48 => ?_)
    · have hb := hT_48 c_48
      refine ev_aload_n (pc := 67) dX12_goes_67 rfl ?_
      refine tv_getr (pc := 68) (d := 90) dX12_goes_68 fl_X12_83 (by decide) rfl rfl ?_
      refine ev_iload_n (pc := 71) dX12_goes_71 rfl ?_
      refine ev_iald (pc := 72) dX12_goes_72 (by decide) rfl hb.1 ?_
      replace hb := hb.2
      refine ev_aload_n (pc := 73) dX12_goes_73 rfl ?_
      refine tv_getr (pc := 74) (d := 90) dX12_goes_74 fl_X12_83 (by decide) rfl rfl ?_
      refine ev_iload_n (pc := 77) dX12_goes_77 rfl ?_
      refine ev_iald (pc := 78) dX12_goes_78 (by decide) rfl hb ?_
      refine ev_isub (pc := 79) dX12_goes_79 ?_
      simp only [qs0m48_X12_goes_68, if_pos c_48] at hJ_48
      exact ev_loc hJ_48 cw_le0
    · have hb := hF_48 c_48
      refine ev_aload_n (pc := 51) dX12_goes_51 rfl ?_
      refine tv_getr (pc := 52) (d := 90) dX12_goes_52 fl_X12_83 (by decide) rfl rfl ?_
      refine ev_iload_n (pc := 55) dX12_goes_55 rfl ?_
      refine ev_iald (pc := 56) dX12_goes_56 (by decide) rfl hb.1 ?_
      replace hb := hb.2
      refine ev_aload_n (pc := 57) dX12_goes_57 rfl ?_
      refine tv_getr (pc := 58) (d := 90) dX12_goes_58 fl_X12_83 (by decide) rfl rfl ?_
      refine ev_iload_n (pc := 61) dX12_goes_61 rfl ?_
      refine ev_iald (pc := 62) dX12_goes_62 (by decide) rfl hb ?_
      refine ev_isub (pc := 63) dX12_goes_63 ?_
      refine ev_goto (pc := 64) (tgt := 80) dX12_goes_64 (by decide) ?_
      simp only [qs0m48_X12_goes_68, if_neg c_48] at hJ_48
      exact ev_loc hJ_48 cw_le0
  refine ev_istore_5 (pc := 80) dX12_goes_80 (by decide) rfl ?_
  refine ev_aload_n (pc := 82) dX12_goes_82 rfl ?_
  refine tv_getr (pc := 83) (d := 90) dX12_goes_83 fl_X12_83 (by decide) rfl rfl ?_
  refine ev_iload_n (pc := 86) dX12_goes_86 rfl ?_
  refine ev_iald (pc := 87) dX12_goes_87 (by decide) rfl hb.1 ?_
  replace hb := hb.2
  refine ev_aload_n (pc := 88) dX12_goes_88 rfl ?_
  refine tv_getr (pc := 89) (d := 90) dX12_goes_89 fl_X12_83 (by decide) rfl rfl ?_
  refine ev_iload_n (pc := 92) dX12_goes_92 rfl ?_
  refine ev_iald (pc := 93) dX12_goes_93 (by decide) rfl hb.1 ?_
  replace hb := hb.2
  refine ev_iadd (pc := 94) dX12_goes_94 ?_
  refine ev_iconst (pc := 95) (v := 1) dX12_goes_95 (by decide) ?_
  refine ev_iadd (pc := 96) dX12_goes_96 ?_
  refine ev_bipush (pc := 97) (v := 12) dX12_goes_97 (by decide) ?_
  refine ev_iadd (pc := 99) dX12_goes_99 ?_
  refine ev_iload (pc := 100) dX12_goes_100 rfl ?_
  refine ev_isub (pc := 102) dX12_goes_102 ?_
  refine ev_is (y := (q103_X12_goes_68 n I A J t x1 x2)) rfl ?_
  refine ev_istore_6 (pc := 103) dX12_goes_103 (by decide) rfl ?_
  refine ev_bipush (pc := 105) (v := 12) dX12_goes_105 (by decide) ?_
  refine ev_aload_n (pc := 107) dX12_goes_107 rfl ?_
  refine tv_getr (pc := 108) (d := 90) dX12_goes_108 fl_X12_83 (by decide) rfl rfl ?_
  refine ev_iload_n (pc := 111) dX12_goes_111 rfl ?_
  refine ev_iald (pc := 112) dX12_goes_112 (by decide) rfl hb.1 ?_
  replace hb := hb.2
  refine ev_isub (pc := 113) dX12_goes_113 ?_
  refine ev_aload_n (pc := 114) dX12_goes_114 rfl ?_
  refine tv_getr (pc := 115) (d := 90) dX12_goes_115 fl_X12_83 (by decide) rfl rfl ?_
  refine ev_iload_n (pc := 118) dX12_goes_118 rfl ?_
  refine ev_iald (pc := 119) dX12_goes_119 (by decide) rfl hb.1 ?_
  replace hb := hb.2
  refine ev_isub (pc := 120) dX12_goes_120 ?_
  refine ev_iconst (pc := 121) (v := 1) dX12_goes_121 (by decide) ?_
  refine ev_iadd (pc := 122) dX12_goes_122 ?_
  refine ev_bipush (pc := 123) (v := 12) dX12_goes_123 (by decide) ?_
  refine ev_iadd (pc := 125) dX12_goes_125 ?_
  refine ev_iload (pc := 126) dX12_goes_126 rfl ?_
  refine ev_isub (pc := 128) dX12_goes_128 ?_
  refine ev_is (y := (q129_X12_goes_68 n I A J t x1 x2)) rfl ?_
  refine ev_istore_7 (pc := 129) dX12_goes_129 (by decide) rfl ?_
  refine ev_aload_n (pc := 131) dX12_goes_131 rfl ?_
  refine ev_iload (pc := 132) dX12_goes_132 rfl ?_
  refine ev_iload (pc := 134) dX12_goes_134 rfl ?_
  refine ev_iadd (pc := 136) dX12_goes_136 ?_
  refine tw_puti (pc := 137) (I2 := (qI137_X12_goes_68 n I A J t x1 x2)) dX12_goes_137 fp_X12_313 (by decide) rfl rfl rfl ?_
  refine ev_aload_n (pc := 140) dX12_goes_140 rfl ?_
  refine ev_iconst (pc := 141) (v := 0) dX12_goes_141 (by decide) ?_
  refine tw_puti (pc := 142) (I2 := (qI142_X12_goes_68 n I A J t x1 x2)) dX12_goes_142 fp_X12_316 (by decide) rfl rfl rfl ?_
  refine ev_iload (pc := 145) dX12_goes_145 rfl ?_
  refine ev_aload_n (pc := 147) dX12_goes_147 rfl ?_
  refine tv_geti (pc := 148) dX12_goes_148 fl_X12_313 (by decide) rfl rfl ?_
  refine ev_cut (pj := 165) (Lj := [some (.ref (cw_z g + 68)), some (.int x1), some (.int x2), some (.int (q19_X12_goes_68 n I A J t x1 x2)), some (.int (qs0m23_X12_goes_68 n I A J t x1 x2)), some (.int (qs0m48_X12_goes_68 n I A J t x1 x2)), some (.int (q103_X12_goes_68 n I A J t x1 x2)), some (.int (q129_X12_goes_68 n I A J t x1 x2)), none, none]) (stj := []) (σj := hp g (qIm151_X12_goes_68 n I A J t x1 x2) A J t) ?_ (fun hJ_151 => ?_)
  rotate_left
  · refine ev_icmp_ge (pc := 151) (tgt := 165) dX12_goes_151 (by decide) (fun c_151 => ?_) (fun c_151 => ?_)
    · simp only [qIm151_X12_goes_68, if_pos c_151] at hJ_151
      exact ev_loc hJ_151 cw_le0
    · refine ev_aload_n (pc := 154) dX12_goes_154 rfl ?_
      refine ev_iload (pc := 155) dX12_goes_155 rfl ?_
      refine tw_puti (pc := 157) (I2 := (qI157_X12_goes_68 n I A J t x1 x2)) dX12_goes_157 fp_X12_313 (by decide) rfl rfl rfl ?_
      refine ev_aload_n (pc := 160) dX12_goes_160 rfl ?_
      refine ev_iconst (pc := 161) (v := 1) dX12_goes_161 (by decide) ?_
      refine tw_puti (pc := 162) (I2 := (qI162_X12_goes_68 n I A J t x1 x2)) dX12_goes_162 fp_X12_316 (by decide) rfl rfl rfl ?_
      simp only [qIm151_X12_goes_68, if_neg c_151] at hJ_151
      exact ev_loc hJ_151 cw_le0
  refine ev_iload (pc := 165) dX12_goes_165 rfl ?_
  refine ev_aload_n (pc := 167) dX12_goes_167 rfl ?_
  refine tv_geti (pc := 168) dX12_goes_168 fl_X12_313 (by decide) rfl rfl ?_
  refine ev_cut (pj := 185) (Lj := [some (.ref (cw_z g + 68)), some (.int x1), some (.int x2), some (.int (q19_X12_goes_68 n I A J t x1 x2)), some (.int (qs0m23_X12_goes_68 n I A J t x1 x2)), some (.int (qs0m48_X12_goes_68 n I A J t x1 x2)), some (.int (q103_X12_goes_68 n I A J t x1 x2)), some (.int (q129_X12_goes_68 n I A J t x1 x2)), none, none]) (stj := []) (σj := hp g (qIm171_X12_goes_68 n I A J t x1 x2) A J t) ?_ (fun hJ_171 => ?_)
  rotate_left
  · refine ev_icmp_ge (pc := 171) (tgt := 185) dX12_goes_171 (by decide) (fun c_171 => ?_) (fun c_171 => ?_)
    · simp only [qIm171_X12_goes_68, if_pos c_171] at hJ_171
      exact ev_loc hJ_171 cw_le0
    · refine ev_aload_n (pc := 174) dX12_goes_174 rfl ?_
      refine ev_iload (pc := 175) dX12_goes_175 rfl ?_
      refine tw_puti (pc := 177) (I2 := (qI177_X12_goes_68 n I A J t x1 x2)) dX12_goes_177 fp_X12_313 (by decide) rfl rfl rfl ?_
      refine ev_aload_n (pc := 180) dX12_goes_180 rfl ?_
      refine ev_iconst (pc := 181) (v := 2) dX12_goes_181 (by decide) ?_
      refine tw_puti (pc := 182) (I2 := (qI182_X12_goes_68 n I A J t x1 x2)) dX12_goes_182 fp_X12_316 (by decide) rfl rfl rfl ?_
      simp only [qIm171_X12_goes_68, if_neg c_171] at hJ_171
      exact ev_loc hJ_171 cw_le0
  refine ev_aload_n (pc := 185) dX12_goes_185 rfl ?_
  refine ev_aload_n (pc := 186) dX12_goes_186 rfl ?_
  refine tv_geti (pc := 187) dX12_goes_187 fl_X12_316 (by decide) rfl rfl ?_
  refine ev_iconst (pc := 190) (v := 2) dX12_goes_190 (by decide) ?_
  refine ev_cut (pj := 199) (Lj := [some (.ref (cw_z g + 68)), some (.int x1), some (.int x2), some (.int (q19_X12_goes_68 n I A J t x1 x2)), some (.int (qs0m23_X12_goes_68 n I A J t x1 x2)), some (.int (qs0m48_X12_goes_68 n I A J t x1 x2)), some (.int (q103_X12_goes_68 n I A J t x1 x2)), some (.int (q129_X12_goes_68 n I A J t x1 x2)), none, none]) (stj := [(.int (qs1m191_X12_goes_68 n I A J t x1 x2)), (.ref (cw_z g + 68))]) (σj := hp g (qIm171_X12_goes_68 n I A J t x1 x2) A J t) ?_ (fun hJ_191 => ?_)
  rotate_left
  · refine ev_icmp_ne (pc := 191) (tgt := 198) dX12_goes_191 (by decide) (fun c_191 => ?_) (fun c_191 => ?_)
    · refine ev_iconst (pc := 198) (v := 0) dX12_goes_198 (by decide) ?_
      simp only [qs1m191_X12_goes_68, if_neg c_191] at hJ_191
      exact ev_loc hJ_191 cw_le0
    · refine ev_iconst (pc := 194) (v := 4) dX12_goes_194 (by decide) ?_
      refine ev_goto (pc := 195) (tgt := 199) dX12_goes_195 (by decide) ?_
      simp only [qs1m191_X12_goes_68, if_pos c_191] at hJ_191
      exact ev_loc hJ_191 cw_le0
  refine tw_puti (pc := 199) (I2 := (qI199_X12_goes_68 n I A J t x1 x2)) dX12_goes_199 fp_X12_319 (by decide) rfl rfl rfl ?_
  refine ev_aload_n (pc := 202) dX12_goes_202 rfl ?_
  refine tv_geti (pc := 203) dX12_goes_203 fl_X12_316 (by decide) rfl rfl ?_
  have hT_206 := hb
  refine ev_if_le (pc := 206) (tgt := 210) dX12_goes_206 (by decide) (fun c_206 => ?_) (fun c_206 => ?_)
  · have hb := hT_206 c_206
    try simp only [if_pos c_206] at hQ
    refine ev_iload_n (pc := 210) dX12_goes_210 rfl ?_
    refine ev_cut (pj := 229) (Lj := [some (.ref (cw_z g + 68)), some (.int x1), some (.int x2), some (.int (q19_X12_goes_68 n I A J t x1 x2)), some (.int (qs0m23_X12_goes_68 n I A J t x1 x2)), some (.int (qs0m48_X12_goes_68 n I A J t x1 x2)), some (.int (q103_X12_goes_68 n I A J t x1 x2)), some (.int (q129_X12_goes_68 n I A J t x1 x2)), none, none]) (stj := [(.int (qs0m211_X12_goes_68 n I A J t x1 x2))]) (σj := hp g (qI199_X12_goes_68 n I A J t x1 x2) A J t) ?_ (fun hJ_211 => ?_)
    rotate_left
    · refine ev_if_ne (pc := 211) (tgt := 218) dX12_goes_211 (by decide) (fun c_211 => ?_) (fun c_211 => ?_)
      · refine ev_iload_n (pc := 218) dX12_goes_218 rfl ?_
        refine ev_bipush (pc := 219) (v := 12) dX12_goes_219 (by decide) ?_
        refine ev_cut (pj := 229) (Lj := [some (.ref (cw_z g + 68)), some (.int x1), some (.int x2), some (.int (q19_X12_goes_68 n I A J t x1 x2)), some (.int (qs0m23_X12_goes_68 n I A J t x1 x2)), some (.int (qs0m48_X12_goes_68 n I A J t x1 x2)), some (.int (q103_X12_goes_68 n I A J t x1 x2)), some (.int (q129_X12_goes_68 n I A J t x1 x2)), none, none]) (stj := [(.int (qs0m221_X12_goes_68 n I A J t x1 x2))]) (σj := hp g (qI199_X12_goes_68 n I A J t x1 x2) A J t) ?_ (fun hJ_221 => ?_)
        rotate_left
        · refine ev_icmp_gt (pc := 221) (tgt := 228) dX12_goes_221 (by decide) (fun c_221 => ?_) (fun c_221 => ?_)
          · refine ev_iconst (pc := 228) (v := 2) dX12_goes_228 (by decide) ?_
            simp only [qs0m221_X12_goes_68, if_pos c_221] at hJ_221
            exact ev_loc hJ_221 cw_le0
          · refine ev_iconst (pc := 224) (v := 1) dX12_goes_224 (by decide) ?_
            refine ev_goto (pc := 225) (tgt := 229) dX12_goes_225 (by decide) ?_
            simp only [qs0m221_X12_goes_68, if_neg c_221] at hJ_221
            exact ev_loc hJ_221 cw_le0
        simp only [qs0m211_X12_goes_68, if_neg c_211] at hJ_211
        exact ev_loc hJ_211 cw_le0
      · refine ev_iconst (pc := 214) (v := 0) dX12_goes_214 (by decide) ?_
        refine ev_goto (pc := 215) (tgt := 229) dX12_goes_215 (by decide) ?_
        simp only [qs0m211_X12_goes_68, if_pos c_211] at hJ_211
        exact ev_loc hJ_211 cw_le0
    refine ev_istore_8 (pc := 229) dX12_goes_229 (by decide) rfl ?_
    refine ev_aload_n (pc := 231) dX12_goes_231 rfl ?_
    refine tv_getr (pc := 232) (d := 90) dX12_goes_232 fl_X12_83 (by decide) rfl rfl ?_
    refine ev_iload_n (pc := 235) dX12_goes_235 rfl ?_
    refine ev_iald (pc := 236) dX12_goes_236 (by decide) rfl hb.1 ?_
    replace hb := hb.2
    refine ev_aload_n (pc := 237) dX12_goes_237 rfl ?_
    refine tv_getr (pc := 238) (d := 90) dX12_goes_238 fl_X12_83 (by decide) rfl rfl ?_
    refine ev_iload_n (pc := 241) dX12_goes_241 rfl ?_
    refine ev_iald (pc := 242) dX12_goes_242 (by decide) rfl hb.1 ?_
    replace hb := hb.2
    have hT_243 := hb
    refine ev_cut (pj := 270) (Lj := [some (.ref (cw_z g + 68)), some (.int x1), some (.int x2), some (.int (q19_X12_goes_68 n I A J t x1 x2)), some (.int (qs0m23_X12_goes_68 n I A J t x1 x2)), some (.int (qs0m48_X12_goes_68 n I A J t x1 x2)), some (.int (q103_X12_goes_68 n I A J t x1 x2)), some (.int (q129_X12_goes_68 n I A J t x1 x2)), some (.int (qs0m211_X12_goes_68 n I A J t x1 x2)), none]) (stj := [(.int (qs0m243_X12_goes_68 n I A J t x1 x2))]) (σj := hp g (qI199_X12_goes_68 n I A J t x1 x2) A J t) ?_ (fun hJ_243 => ?_)
    rotate_left
    · refine ev_icmp_ge (pc := 243) (tgt := 250) dX12_goes_243 (by decide) (fun c_243 => ?_) (fun c_243 => ?_)
      · have hb := hT_243 c_243
        refine ev_aload_n (pc := 250) dX12_goes_250 rfl ?_
        refine tv_getr (pc := 251) (d := 90) dX12_goes_251 fl_X12_83 (by decide) rfl rfl ?_
        refine ev_iload_n (pc := 254) dX12_goes_254 rfl ?_
        refine ev_iald (pc := 255) dX12_goes_255 (by decide) rfl hb.1 ?_
        replace hb := hb.2
        refine ev_aload_n (pc := 256) dX12_goes_256 rfl ?_
        refine tv_getr (pc := 257) (d := 90) dX12_goes_257 fl_X12_83 (by decide) rfl rfl ?_
        refine ev_iload_n (pc := 260) dX12_goes_260 rfl ?_
        refine ev_iald (pc := 261) dX12_goes_261 (by decide) rfl hb ?_
        refine ev_cut (pj := 270) (Lj := [some (.ref (cw_z g + 68)), some (.int x1), some (.int x2), some (.int (q19_X12_goes_68 n I A J t x1 x2)), some (.int (qs0m23_X12_goes_68 n I A J t x1 x2)), some (.int (qs0m48_X12_goes_68 n I A J t x1 x2)), some (.int (q103_X12_goes_68 n I A J t x1 x2)), some (.int (q129_X12_goes_68 n I A J t x1 x2)), some (.int (qs0m211_X12_goes_68 n I A J t x1 x2)), none]) (stj := [(.int (qs0m262_X12_goes_68 n I A J t x1 x2))]) (σj := hp g (qI199_X12_goes_68 n I A J t x1 x2) A J t) ?_ (fun hJ_262 => ?_)
        rotate_left
        · refine ev_icmp_le (pc := 262) (tgt := 269) dX12_goes_262 (by decide) (fun c_262 => ?_) (fun c_262 => ?_)
          · refine ev_iconst (pc := 269) (v := 0) dX12_goes_269 (by decide) ?_
            simp only [qs0m262_X12_goes_68, if_pos c_262] at hJ_262
            exact ev_loc hJ_262 cw_le0
          · refine ev_iconst (pc := 265) (v := 2) dX12_goes_265 (by decide) ?_
            refine ev_goto (pc := 266) (tgt := 270) dX12_goes_266 (by decide) ?_
            simp only [qs0m262_X12_goes_68, if_neg c_262] at hJ_262
            exact ev_loc hJ_262 cw_le0
        simp only [qs0m243_X12_goes_68, if_pos c_243] at hJ_243
        exact ev_loc hJ_243 cw_le0
      · refine ev_iconst (pc := 246) (v := 1) dX12_goes_246 (by decide) ?_
        refine ev_goto (pc := 247) (tgt := 270) dX12_goes_247 (by decide) ?_
        simp only [qs0m243_X12_goes_68, if_neg c_243] at hJ_243
        exact ev_loc hJ_243 cw_le0
    refine ev_istore_9 (pc := 270) dX12_goes_270 (by decide) rfl ?_
    refine ev_iload (pc := 272) dX12_goes_272 rfl ?_
    refine ev_cut (pj := 356) (Lj := [some (.ref (cw_z g + 68)), some (.int x1), some (.int x2), some (.int (q19_X12_goes_68 n I A J t x1 x2)), some (.int (qs0m23_X12_goes_68 n I A J t x1 x2)), some (.int (qs0m48_X12_goes_68 n I A J t x1 x2)), some (.int (q103_X12_goes_68 n I A J t x1 x2)), some (.int (q129_X12_goes_68 n I A J t x1 x2)), some (.int (qs0m211_X12_goes_68 n I A J t x1 x2)), some (.int (qs0m243_X12_goes_68 n I A J t x1 x2))]) (stj := []) (σj := hp g (qIm274_X12_goes_68 n I A J t x1 x2) A J t) ?_ (fun hJ_274 => ?_)
    rotate_left
    · refine ev_if_ne (pc := 274) (tgt := 295) dX12_goes_274 (by decide) (fun c_274 => ?_) (fun c_274 => ?_)
      · refine ev_iload (pc := 295) dX12_goes_295 rfl ?_
        refine ev_iconst (pc := 297) (v := 1) dX12_goes_297 (by decide) ?_
        refine ev_cut (pj := 356) (Lj := [some (.ref (cw_z g + 68)), some (.int x1), some (.int x2), some (.int (q19_X12_goes_68 n I A J t x1 x2)), some (.int (qs0m23_X12_goes_68 n I A J t x1 x2)), some (.int (qs0m48_X12_goes_68 n I A J t x1 x2)), some (.int (q103_X12_goes_68 n I A J t x1 x2)), some (.int (q129_X12_goes_68 n I A J t x1 x2)), some (.int (qs0m211_X12_goes_68 n I A J t x1 x2)), some (.int (qs0m243_X12_goes_68 n I A J t x1 x2))]) (stj := []) (σj := hp g (qIm298_X12_goes_68 n I A J t x1 x2) A J t) ?_ (fun hJ_298 => ?_)
        rotate_left
        · refine ev_icmp_ne (pc := 298) (tgt := 329) dX12_goes_298 (by decide) (fun c_298 => ?_) (fun c_298 => ?_)
          · refine ev_aload_n (pc := 329) dX12_goes_329 rfl ?_
            refine ev_iload (pc := 330) dX12_goes_330 rfl ?_
            refine ev_iconst (pc := 332) (v := 1) dX12_goes_332 (by decide) ?_
            refine ev_cut (pj := 353) (Lj := [some (.ref (cw_z g + 68)), some (.int x1), some (.int x2), some (.int (q19_X12_goes_68 n I A J t x1 x2)), some (.int (qs0m23_X12_goes_68 n I A J t x1 x2)), some (.int (qs0m48_X12_goes_68 n I A J t x1 x2)), some (.int (q103_X12_goes_68 n I A J t x1 x2)), some (.int (q129_X12_goes_68 n I A J t x1 x2)), some (.int (qs0m211_X12_goes_68 n I A J t x1 x2)), some (.int (qs0m243_X12_goes_68 n I A J t x1 x2))]) (stj := [(.int (qs1m333_X12_goes_68 n I A J t x1 x2)), (.ref (cw_z g + 68))]) (σj := hp g (qI199_X12_goes_68 n I A J t x1 x2) A J t) ?_ (fun hJ_333 => ?_)
            rotate_left
            · refine ev_icmp_ne (pc := 333) (tgt := 341) dX12_goes_333 (by decide) (fun c_333 => ?_) (fun c_333 => ?_)
              · refine ev_iload (pc := 341) dX12_goes_341 rfl ?_
                refine ev_iconst (pc := 343) (v := 2) dX12_goes_343 (by decide) ?_
                refine ev_cut (pj := 353) (Lj := [some (.ref (cw_z g + 68)), some (.int x1), some (.int x2), some (.int (q19_X12_goes_68 n I A J t x1 x2)), some (.int (qs0m23_X12_goes_68 n I A J t x1 x2)), some (.int (qs0m48_X12_goes_68 n I A J t x1 x2)), some (.int (q103_X12_goes_68 n I A J t x1 x2)), some (.int (q129_X12_goes_68 n I A J t x1 x2)), some (.int (qs0m211_X12_goes_68 n I A J t x1 x2)), some (.int (qs0m243_X12_goes_68 n I A J t x1 x2))]) (stj := [(.int (qs1m344_X12_goes_68 n I A J t x1 x2)), (.ref (cw_z g + 68))]) (σj := hp g (qI199_X12_goes_68 n I A J t x1 x2) A J t) ?_ (fun hJ_344 => ?_)
                rotate_left
                · refine ev_icmp_ne (pc := 344) (tgt := 351) dX12_goes_344 (by decide) (fun c_344 => ?_) (fun c_344 => ?_)
                  · refine ev_bipush (pc := 351) (v := 6) dX12_goes_351 (by decide) ?_
                    simp only [qs1m344_X12_goes_68, if_neg c_344] at hJ_344
                    exact ev_loc hJ_344 cw_le0
                  · refine ev_iconst (pc := 347) (v := 5) dX12_goes_347 (by decide) ?_
                    refine ev_goto (pc := 348) (tgt := 353) dX12_goes_348 (by decide) ?_
                    simp only [qs1m344_X12_goes_68, if_pos c_344] at hJ_344
                    exact ev_loc hJ_344 cw_le0
                simp only [qs1m333_X12_goes_68, if_neg c_333] at hJ_333
                exact ev_loc hJ_333 cw_le0
              · refine ev_bipush (pc := 336) (v := 7) dX12_goes_336 (by decide) ?_
                refine ev_goto (pc := 338) (tgt := 353) dX12_goes_338 (by decide) ?_
                simp only [qs1m333_X12_goes_68, if_pos c_333] at hJ_333
                exact ev_loc hJ_333 cw_le0
            refine tw_puti (pc := 353) (I2 := (qI353_X12_goes_68 n I A J t x1 x2)) dX12_goes_353 fp_X12_319 (by decide) rfl rfl rfl ?_
            simp only [qIm298_X12_goes_68, if_neg c_298] at hJ_298
            exact ev_loc hJ_298 cw_le0
          · refine ev_aload_n (pc := 301) dX12_goes_301 rfl ?_
            refine ev_iload (pc := 302) dX12_goes_302 rfl ?_
            refine ev_iconst (pc := 304) (v := 1) dX12_goes_304 (by decide) ?_
            refine ev_cut (pj := 323) (Lj := [some (.ref (cw_z g + 68)), some (.int x1), some (.int x2), some (.int (q19_X12_goes_68 n I A J t x1 x2)), some (.int (qs0m23_X12_goes_68 n I A J t x1 x2)), some (.int (qs0m48_X12_goes_68 n I A J t x1 x2)), some (.int (q103_X12_goes_68 n I A J t x1 x2)), some (.int (q129_X12_goes_68 n I A J t x1 x2)), some (.int (qs0m211_X12_goes_68 n I A J t x1 x2)), some (.int (qs0m243_X12_goes_68 n I A J t x1 x2))]) (stj := [(.int (qs1m305_X12_goes_68 n I A J t x1 x2)), (.ref (cw_z g + 68))]) (σj := hp g (qI199_X12_goes_68 n I A J t x1 x2) A J t) ?_ (fun hJ_305 => ?_)
            rotate_left
            · refine ev_icmp_ne (pc := 305) (tgt := 312) dX12_goes_305 (by decide) (fun c_305 => ?_) (fun c_305 => ?_)
              · refine ev_iload (pc := 312) dX12_goes_312 rfl ?_
                refine ev_iconst (pc := 314) (v := 2) dX12_goes_314 (by decide) ?_
                refine ev_cut (pj := 323) (Lj := [some (.ref (cw_z g + 68)), some (.int x1), some (.int x2), some (.int (q19_X12_goes_68 n I A J t x1 x2)), some (.int (qs0m23_X12_goes_68 n I A J t x1 x2)), some (.int (qs0m48_X12_goes_68 n I A J t x1 x2)), some (.int (q103_X12_goes_68 n I A J t x1 x2)), some (.int (q129_X12_goes_68 n I A J t x1 x2)), some (.int (qs0m211_X12_goes_68 n I A J t x1 x2)), some (.int (qs0m243_X12_goes_68 n I A J t x1 x2))]) (stj := [(.int (qs1m315_X12_goes_68 n I A J t x1 x2)), (.ref (cw_z g + 68))]) (σj := hp g (qI199_X12_goes_68 n I A J t x1 x2) A J t) ?_ (fun hJ_315 => ?_)
                rotate_left
                · refine ev_icmp_ne (pc := 315) (tgt := 322) dX12_goes_315 (by decide) (fun c_315 => ?_) (fun c_315 => ?_)
                  · refine ev_iconst (pc := 322) (v := 2) dX12_goes_322 (by decide) ?_
                    simp only [qs1m315_X12_goes_68, if_neg c_315] at hJ_315
                    exact ev_loc hJ_315 cw_le0
                  · refine ev_iconst (pc := 318) (v := 3) dX12_goes_318 (by decide) ?_
                    refine ev_goto (pc := 319) (tgt := 323) dX12_goes_319 (by decide) ?_
                    simp only [qs1m315_X12_goes_68, if_pos c_315] at hJ_315
                    exact ev_loc hJ_315 cw_le0
                simp only [qs1m305_X12_goes_68, if_neg c_305] at hJ_305
                exact ev_loc hJ_305 cw_le0
              · refine ev_iconst (pc := 308) (v := 1) dX12_goes_308 (by decide) ?_
                refine ev_goto (pc := 309) (tgt := 323) dX12_goes_309 (by decide) ?_
                simp only [qs1m305_X12_goes_68, if_pos c_305] at hJ_305
                exact ev_loc hJ_305 cw_le0
            refine tw_puti (pc := 323) (I2 := (qI323_X12_goes_68 n I A J t x1 x2)) dX12_goes_323 fp_X12_319 (by decide) rfl rfl rfl ?_
            refine ev_goto (pc := 326) (tgt := 356) dX12_goes_326 (by decide) ?_
            simp only [qIm298_X12_goes_68, if_pos c_298] at hJ_298
            exact ev_loc hJ_298 cw_le0
        simp only [qIm274_X12_goes_68, if_neg c_274] at hJ_274
        exact ev_loc hJ_274 cw_le0
      · refine ev_aload_n (pc := 277) dX12_goes_277 rfl ?_
        refine ev_iload (pc := 278) dX12_goes_278 rfl ?_
        refine ev_iconst (pc := 280) (v := 2) dX12_goes_280 (by decide) ?_
        refine ev_cut (pj := 289) (Lj := [some (.ref (cw_z g + 68)), some (.int x1), some (.int x2), some (.int (q19_X12_goes_68 n I A J t x1 x2)), some (.int (qs0m23_X12_goes_68 n I A J t x1 x2)), some (.int (qs0m48_X12_goes_68 n I A J t x1 x2)), some (.int (q103_X12_goes_68 n I A J t x1 x2)), some (.int (q129_X12_goes_68 n I A J t x1 x2)), some (.int (qs0m211_X12_goes_68 n I A J t x1 x2)), some (.int (qs0m243_X12_goes_68 n I A J t x1 x2))]) (stj := [(.int (qs1m281_X12_goes_68 n I A J t x1 x2)), (.ref (cw_z g + 68))]) (σj := hp g (qI199_X12_goes_68 n I A J t x1 x2) A J t) ?_ (fun hJ_281 => ?_)
        rotate_left
        · refine ev_icmp_ne (pc := 281) (tgt := 288) dX12_goes_281 (by decide) (fun c_281 => ?_) (fun c_281 => ?_)
          · refine ev_iconst (pc := 288) (v := 0) dX12_goes_288 (by decide) ?_
            simp only [qs1m281_X12_goes_68, if_neg c_281] at hJ_281
            exact ev_loc hJ_281 cw_le0
          · refine ev_iconst (pc := 284) (v := 4) dX12_goes_284 (by decide) ?_
            refine ev_goto (pc := 285) (tgt := 289) dX12_goes_285 (by decide) ?_
            simp only [qs1m281_X12_goes_68, if_pos c_281] at hJ_281
            exact ev_loc hJ_281 cw_le0
        refine tw_puti (pc := 289) (I2 := (qI289_X12_goes_68 n I A J t x1 x2)) dX12_goes_289 fp_X12_319 (by decide) rfl rfl rfl ?_
        refine ev_goto (pc := 292) (tgt := 356) dX12_goes_292 (by decide) ?_
        simp only [qIm274_X12_goes_68, if_pos c_274] at hJ_274
        exact ev_loc hJ_274 cw_le0
    exact ev_vret (pc := 356) dX12_goes_356 rfl (by decide) (by decide) (hQ _ _ ⟨rfl, rfl⟩)
  · try simp only [if_neg c_206] at hQ
    exact ev_vret (pc := 209) dX12_goes_209 rfl (by decide) (by decide) (hQ _ _ ⟨rfl, rfl⟩)

def pb_X12_way_68 (n : Nat) (I : Nat → Nat → Int32) (A : Nat → Nat → Int32) (J : Nat → Nat → Int64) (t : Bool × Bool) (x1 : Int32) (x2 : Int32) (x3 : Int32) : Prop := (¬ (px_X12_isSite_68 n I A J t x1) = 0 → (¬ (px_X12_isLand_68 n I A J t x2) = 0 → pb_X12_goes_68 n I A J t ((8 : Int32) + x1) x2))
def px_X12_way_68 (n : Nat) (I : Nat → Nat → Int32) (A : Nat → Nat → Int32) (J : Nat → Nat → Int64) (t : Bool × Bool) (x1 : Int32) (x2 : Int32) (x3 : Int32) : Int32 := (if (px_X12_isSite_68 n I A J t x1) = 0 then (-1) else (if (px_X12_isLand_68 n I A J t x2) = 0 then (-1) else (if x3 = 0 then ((pI_X12_goes_68 n I A J t ((8 : Int32) + x1) x2) 68 59) else (if x3 = 1 then (px_X12_far_68 n (pI_X12_goes_68 n I A J t ((8 : Int32) + x1) x2) A J t ) else (if x3 = 2 then ((pI_X12_goes_68 n I A J t ((8 : Int32) + x1) x2) 68 61) else (if x3 = 3 then ((pI_X12_goes_68 n I A J t ((8 : Int32) + x1) x2) 68 60) else (-1)))))))
def pI_X12_way_68 (n : Nat) (I : Nat → Nat → Int32) (A : Nat → Nat → Int32) (J : Nat → Nat → Int64) (t : Bool × Bool) (x1 : Int32) (x2 : Int32) (x3 : Int32) : Nat → Nat → Int32 := (if (px_X12_isSite_68 n I A J t x1) = 0 then I else (if (px_X12_isLand_68 n I A J t x2) = 0 then I else (pI_X12_goes_68 n I A J t ((8 : Int32) + x1) x2)))
set_option maxRecDepth 100000 in
set_option maxHeartbeats 4000000 in
theorem cv_X12_way_68 (g : cw_G) (n : Nat) (I : Nat → Nat → Int32) (A : Nat → Nat → Int32) (J : Nat → Nat → Int64) (t : Bool × Bool) (x1 : Int32) (x2 : Int32) (x3 : Int32) (hb : pb_X12_way_68 n I A J t x1 x2 x3) : Cd g mX12_way [(.ref (cw_z g + 68)), (.int x1), (.int x2), (.int x3)] (hp g I A J t) (some (.int (px_X12_way_68 n I A J t x1 x2 x3))) (hp g (pI_X12_way_68 n I A J t x1 x2 x3) A J t) := by
  unfold pb_X12_way_68 at hb
  unfold px_X12_way_68 pI_X12_way_68
  refine Cd.of rfl (Nat.le_of_ble_eq_true rfl) (ev_gen (fun Q hQ => ?_))
  refine ev_aload_n (pc := 0) dX12_way_0 rfl ?_
  refine ev_iload_n (pc := 1) dX12_way_1 rfl ?_
  refine ev_Vi (pc := 2) dX12_way_2 lk_X12_292 cd_X12_isSite ar_X12_isSite ⟨by decide, rfl, rfl⟩ (cv_X12_isSite_68 g n I A J t x1) (show 68 < 120 by decide) rfl rfl rfl rfl (Nat.le_of_ble_eq_true rfl) ⟨by decide, by decide⟩ ?_
  have hF_5 := hb
  refine ev_if_eq (pc := 5) (tgt := 16) dX12_way_5 (by decide) (fun c_5 => ?_) (fun c_5 => ?_)
  · try simp only [if_pos c_5] at hQ
    refine ev_iconst (pc := 16) (v := (-1)) dX12_way_16 (by decide) ?_
    exact ev_iret (pc := 17) dX12_way_17 rfl (by decide) (by decide) (hQ _ _ ⟨rfl, rfl⟩)
  · have hb := hF_5 c_5
    try simp only [if_neg c_5] at hQ
    refine ev_aload_n (pc := 8) dX12_way_8 rfl ?_
    refine ev_iload_n (pc := 9) dX12_way_9 rfl ?_
    refine ev_Vi (pc := 10) dX12_way_10 lk_X12_298 cd_X12_isLand ar_X12_isLand ⟨by decide, rfl, rfl⟩ (cv_X12_isLand_68 g n I A J t x2) (show 68 < 120 by decide) rfl rfl rfl rfl (Nat.le_of_ble_eq_true rfl) ⟨by decide, by decide⟩ ?_
    have hT_13 := hb
    refine ev_if_ne (pc := 13) (tgt := 18) dX12_way_13 (by decide) (fun c_13 => ?_) (fun c_13 => ?_)
    · have hb := hT_13 c_13
      try simp only [if_neg c_13] at hQ
      refine ev_aload_n (pc := 18) dX12_way_18 rfl ?_
      refine ev_bipush (pc := 19) (v := 8) dX12_way_19 (by decide) ?_
      refine ev_iload_n (pc := 21) dX12_way_21 rfl ?_
      refine ev_iadd (pc := 22) dX12_way_22 ?_
      refine ev_iload_n (pc := 23) dX12_way_23 rfl ?_
      refine ev_Vv (pc := 24) dX12_way_24 lk_X12_322 cd_X12_goes ar_X12_goes ⟨by decide, rfl, rfl⟩ (cv_X12_goes_68 g n I A J t ((8 : Int32) + x1) x2 hb) (show 68 < 120 by decide) rfl rfl rfl rfl (Nat.le_of_ble_eq_true rfl) ⟨by decide, by decide⟩ ?_
      refine ev_iload_n (pc := 27) dX12_way_27 rfl ?_
      by_cases s_28_0 : x3 = 0
      · try simp only [if_pos s_28_0] at hQ
        refine ev_tableIn (pc := 28) (tgt := 60) (off := 32) dX12_way_28 (by rw [s_28_0]; decide) (by rw [s_28_0]; decide) (by rw [s_28_0]; decide) (by decide) ?_
        refine ev_aload_n (pc := 60) dX12_way_60 rfl ?_
        refine tv_geti (pc := 61) dX12_way_61 fl_X12_313 (by decide) rfl rfl ?_
        exact ev_iret (pc := 64) dX12_way_64 rfl (by decide) (by decide) (hQ _ _ ⟨rfl, rfl⟩)
      try simp only [if_neg s_28_0] at hQ
      by_cases s_28_1 : x3 = 1
      · try simp only [if_pos s_28_1] at hQ
        refine ev_tableIn (pc := 28) (tgt := 65) (off := 37) dX12_way_28 (by rw [s_28_1]; decide) (by rw [s_28_1]; decide) (by rw [s_28_1]; decide) (by decide) ?_
        refine ev_aload_n (pc := 65) dX12_way_65 rfl ?_
        refine ev_Vi (pc := 66) dX12_way_66 lk_X12_325 cd_X12_far ar_X12_far ⟨by decide, rfl, rfl⟩ (cv_X12_far_68 g n (pI_X12_goes_68 n I A J t ((8 : Int32) + x1) x2) A J t ) (show 68 < 120 by decide) rfl rfl rfl rfl (Nat.le_of_ble_eq_true rfl) ⟨by decide, by decide⟩ ?_
        exact ev_iret (pc := 69) dX12_way_69 rfl (by decide) (by decide) (hQ _ _ ⟨rfl, rfl⟩)
      try simp only [if_neg s_28_1] at hQ
      by_cases s_28_2 : x3 = 2
      · try simp only [if_pos s_28_2] at hQ
        refine ev_tableIn (pc := 28) (tgt := 70) (off := 42) dX12_way_28 (by rw [s_28_2]; decide) (by rw [s_28_2]; decide) (by rw [s_28_2]; decide) (by decide) ?_
        refine ev_aload_n (pc := 70) dX12_way_70 rfl ?_
        refine tv_geti (pc := 71) dX12_way_71 fl_X12_319 (by decide) rfl rfl ?_
        exact ev_iret (pc := 74) dX12_way_74 rfl (by decide) (by decide) (hQ _ _ ⟨rfl, rfl⟩)
      try simp only [if_neg s_28_2] at hQ
      by_cases s_28_3 : x3 = 3
      · try simp only [if_pos s_28_3] at hQ
        refine ev_tableIn (pc := 28) (tgt := 75) (off := 47) dX12_way_28 (by rw [s_28_3]; decide) (by rw [s_28_3]; decide) (by rw [s_28_3]; decide) (by decide) ?_
        refine ev_aload_n (pc := 75) dX12_way_75 rfl ?_
        refine tv_geti (pc := 76) dX12_way_76 fl_X12_316 (by decide) rfl rfl ?_
        exact ev_iret (pc := 79) dX12_way_79 rfl (by decide) (by decide) (hQ _ _ ⟨rfl, rfl⟩)
      try simp only [if_neg s_28_3] at hQ
      refine ev_tableOut (pc := 28) (tgt := 80) dX12_way_28 (by simp only [← Int32.toInt_inj, Int32.reduceToInt] at s_28_0 s_28_1 s_28_2 s_28_3; omega) (by decide) ?_
      refine ev_iconst (pc := 80) (v := (-1)) dX12_way_80 (by decide) ?_
      exact ev_iret (pc := 81) dX12_way_81 rfl (by decide) (by decide) (hQ _ _ ⟨rfl, rfl⟩)
    · try simp only [if_pos c_13] at hQ
      refine ev_iconst (pc := 16) (v := (-1)) dX12_way_16 (by decide) ?_
      exact ev_iret (pc := 17) dX12_way_17 rfl (by decide) (by decide) (hQ _ _ ⟨rfl, rfl⟩)

def q11_X12_sunAt_68 (n : Nat) (I : Nat → Nat → Int32) (A : Nat → Nat → Int32) (J : Nat → Nat → Int64) (t : Bool × Bool) (x1 : Int32) (x2 : Int32) (x3 : Int32) : Int32 := (cw_rem (x3 + (A 89 (x1).toNatClampNeg)) 24)
def q19_X12_sunAt_68 (n : Nat) (I : Nat → Nat → Int32) (A : Nat → Nat → Int32) (J : Nat → Nat → Int64) (t : Bool × Bool) (x1 : Int32) (x2 : Int32) (x3 : Int32) : Int32 := (cw_rem (x2 / 90) 4)
def qs0m28_X12_sunAt_68 (n : Nat) (I : Nat → Nat → Int32) (A : Nat → Nat → Int32) (J : Nat → Nat → Int64) (t : Bool × Bool) (x1 : Int32) (x2 : Int32) (x3 : Int32) : Int32 := if 3 ≤ (A 90 (x1).toNatClampNeg) then 0 else 1
def qs0m45_X12_sunAt_68 (n : Nat) (I : Nat → Nat → Int32) (A : Nat → Nat → Int32) (J : Nat → Nat → Int64) (t : Bool × Bool) (x1 : Int32) (x2 : Int32) (x3 : Int32) : Int32 := if (A 90 (x1).toNatClampNeg) ≤ 3 then 0 else 1
def qs0m74_X12_sunAt_68 (n : Nat) (I : Nat → Nat → Int32) (A : Nat → Nat → Int32) (J : Nat → Nat → Int64) (t : Bool × Bool) (x1 : Int32) (x2 : Int32) (x3 : Int32) : Int32 := if (q19_X12_sunAt_68 n I A J t x1 x2 x3) = 3 then 1 else 0
def qs0m68_X12_sunAt_68 (n : Nat) (I : Nat → Nat → Int32) (A : Nat → Nat → Int32) (J : Nat → Nat → Int64) (t : Bool × Bool) (x1 : Int32) (x2 : Int32) (x3 : Int32) : Int32 := if (qs0m45_X12_sunAt_68 n I A J t x1 x2 x3) = 0 then 0 else (qs0m74_X12_sunAt_68 n I A J t x1 x2 x3)
def qs0m63_X12_sunAt_68 (n : Nat) (I : Nat → Nat → Int32) (A : Nat → Nat → Int32) (J : Nat → Nat → Int64) (t : Bool × Bool) (x1 : Int32) (x2 : Int32) (x3 : Int32) : Int32 := if (q19_X12_sunAt_68 n I A J t x1 x2 x3) = 1 then 1 else (qs0m68_X12_sunAt_68 n I A J t x1 x2 x3)
def qs0m57_X12_sunAt_68 (n : Nat) (I : Nat → Nat → Int32) (A : Nat → Nat → Int32) (J : Nat → Nat → Int64) (t : Bool × Bool) (x1 : Int32) (x2 : Int32) (x3 : Int32) : Int32 := if (qs0m28_X12_sunAt_68 n I A J t x1 x2 x3) = 0 then (qs0m68_X12_sunAt_68 n I A J t x1 x2 x3) else (qs0m63_X12_sunAt_68 n I A J t x1 x2 x3)
def qs0m97_X12_sunAt_68 (n : Nat) (I : Nat → Nat → Int32) (A : Nat → Nat → Int32) (J : Nat → Nat → Int64) (t : Bool × Bool) (x1 : Int32) (x2 : Int32) (x3 : Int32) : Int32 := if (qs0m28_X12_sunAt_68 n I A J t x1 x2 x3) = 0 then 0 else (qs0m74_X12_sunAt_68 n I A J t x1 x2 x3)
def qs0m92_X12_sunAt_68 (n : Nat) (I : Nat → Nat → Int32) (A : Nat → Nat → Int32) (J : Nat → Nat → Int64) (t : Bool × Bool) (x1 : Int32) (x2 : Int32) (x3 : Int32) : Int32 := if (q19_X12_sunAt_68 n I A J t x1 x2 x3) = 1 then 1 else (qs0m97_X12_sunAt_68 n I A J t x1 x2 x3)
def qs0m86_X12_sunAt_68 (n : Nat) (I : Nat → Nat → Int32) (A : Nat → Nat → Int32) (J : Nat → Nat → Int64) (t : Bool × Bool) (x1 : Int32) (x2 : Int32) (x3 : Int32) : Int32 := if (qs0m45_X12_sunAt_68 n I A J t x1 x2 x3) = 0 then (qs0m97_X12_sunAt_68 n I A J t x1 x2 x3) else (qs0m92_X12_sunAt_68 n I A J t x1 x2 x3)
def qs0m237_X12_sunAt_68 (n : Nat) (I : Nat → Nat → Int32) (A : Nat → Nat → Int32) (J : Nat → Nat → Int64) (t : Bool × Bool) (x1 : Int32) (x2 : Int32) (x3 : Int32) : Int32 := if (q11_X12_sunAt_68 n I A J t x1 x2 x3) = 18 then 1 else 0
def qs0m230_X12_sunAt_68 (n : Nat) (I : Nat → Nat → Int32) (A : Nat → Nat → Int32) (J : Nat → Nat → Int64) (t : Bool × Bool) (x1 : Int32) (x2 : Int32) (x3 : Int32) : Int32 := if (q11_X12_sunAt_68 n I A J t x1 x2 x3) = 17 then 1 else (qs0m237_X12_sunAt_68 n I A J t x1 x2 x3)
def qs0m223_X12_sunAt_68 (n : Nat) (I : Nat → Nat → Int32) (A : Nat → Nat → Int32) (J : Nat → Nat → Int64) (t : Bool × Bool) (x1 : Int32) (x2 : Int32) (x3 : Int32) : Int32 := if (q11_X12_sunAt_68 n I A J t x1 x2 x3) = 6 then 1 else (qs0m230_X12_sunAt_68 n I A J t x1 x2 x3)
def qs0m216_X12_sunAt_68 (n : Nat) (I : Nat → Nat → Int32) (A : Nat → Nat → Int32) (J : Nat → Nat → Int64) (t : Bool × Bool) (x1 : Int32) (x2 : Int32) (x3 : Int32) : Int32 := if (q11_X12_sunAt_68 n I A J t x1 x2 x3) = 5 then 1 else (qs0m223_X12_sunAt_68 n I A J t x1 x2 x3)
def qs0m188_X12_sunAt_68 (n : Nat) (I : Nat → Nat → Int32) (A : Nat → Nat → Int32) (J : Nat → Nat → Int64) (t : Bool × Bool) (x1 : Int32) (x2 : Int32) (x3 : Int32) : Int32 := if (q11_X12_sunAt_68 n I A J t x1 x2 x3) = 16 then 1 else 0
def qs0m181_X12_sunAt_68 (n : Nat) (I : Nat → Nat → Int32) (A : Nat → Nat → Int32) (J : Nat → Nat → Int64) (t : Bool × Bool) (x1 : Int32) (x2 : Int32) (x3 : Int32) : Int32 := if (q11_X12_sunAt_68 n I A J t x1 x2 x3) = 7 then 1 else (qs0m188_X12_sunAt_68 n I A J t x1 x2 x3)
def qs0m170_X12_sunAt_68 (n : Nat) (I : Nat → Nat → Int32) (A : Nat → Nat → Int32) (J : Nat → Nat → Int64) (t : Bool × Bool) (x1 : Int32) (x2 : Int32) (x3 : Int32) : Int32 := if 15 < (q11_X12_sunAt_68 n I A J t x1 x2 x3) then (qs0m181_X12_sunAt_68 n I A J t x1 x2 x3) else 2
def qs0m163_X12_sunAt_68 (n : Nat) (I : Nat → Nat → Int32) (A : Nat → Nat → Int32) (J : Nat → Nat → Int64) (t : Bool × Bool) (x1 : Int32) (x2 : Int32) (x3 : Int32) : Int32 := if (q11_X12_sunAt_68 n I A J t x1 x2 x3) < 8 then (qs0m181_X12_sunAt_68 n I A J t x1 x2 x3) else (qs0m170_X12_sunAt_68 n I A J t x1 x2 x3)
def qs0m145_X12_sunAt_68 (n : Nat) (I : Nat → Nat → Int32) (A : Nat → Nat → Int32) (J : Nat → Nat → Int64) (t : Bool × Bool) (x1 : Int32) (x2 : Int32) (x3 : Int32) : Int32 := if (q11_X12_sunAt_68 n I A J t x1 x2 x3) = 19 then 1 else 0
def qs0m138_X12_sunAt_68 (n : Nat) (I : Nat → Nat → Int32) (A : Nat → Nat → Int32) (J : Nat → Nat → Int64) (t : Bool × Bool) (x1 : Int32) (x2 : Int32) (x3 : Int32) : Int32 := if (q11_X12_sunAt_68 n I A J t x1 x2 x3) = 4 then 1 else (qs0m145_X12_sunAt_68 n I A J t x1 x2 x3)
def qs0m128_X12_sunAt_68 (n : Nat) (I : Nat → Nat → Int32) (A : Nat → Nat → Int32) (J : Nat → Nat → Int64) (t : Bool × Bool) (x1 : Int32) (x2 : Int32) (x3 : Int32) : Int32 := if 18 < (q11_X12_sunAt_68 n I A J t x1 x2 x3) then (qs0m138_X12_sunAt_68 n I A J t x1 x2 x3) else 2
def qs0m121_X12_sunAt_68 (n : Nat) (I : Nat → Nat → Int32) (A : Nat → Nat → Int32) (J : Nat → Nat → Int64) (t : Bool × Bool) (x1 : Int32) (x2 : Int32) (x3 : Int32) : Int32 := if (q11_X12_sunAt_68 n I A J t x1 x2 x3) < 5 then (qs0m138_X12_sunAt_68 n I A J t x1 x2 x3) else (qs0m128_X12_sunAt_68 n I A J t x1 x2 x3)
def pb_X12_sunAt_68 (n : Nat) (I : Nat → Nat → Int32) (A : Nat → Nat → Int32) (J : Nat → Nat → Int64) (t : Bool × Bool) (x1 : Int32) (x2 : Int32) (x3 : Int32) : Prop := vp_in x1 12 ∧ vp_in x1 12 ∧ vp_in x1 12
def px_X12_sunAt_68 (n : Nat) (I : Nat → Nat → Int32) (A : Nat → Nat → Int32) (J : Nat → Nat → Int64) (t : Bool × Bool) (x1 : Int32) (x2 : Int32) (x3 : Int32) : Int32 := (if (qs0m57_X12_sunAt_68 n I A J t x1 x2 x3) = 0 then (if (qs0m86_X12_sunAt_68 n I A J t x1 x2 x3) = 0 then (if (q11_X12_sunAt_68 n I A J t x1 x2 x3) < 7 then (qs0m216_X12_sunAt_68 n I A J t x1 x2 x3) else (if 16 < (q11_X12_sunAt_68 n I A J t x1 x2 x3) then (qs0m216_X12_sunAt_68 n I A J t x1 x2 x3) else 2)) else (qs0m163_X12_sunAt_68 n I A J t x1 x2 x3)) else (qs0m121_X12_sunAt_68 n I A J t x1 x2 x3))
set_option maxRecDepth 100000 in
set_option maxHeartbeats 4000000 in
theorem cv_X12_sunAt_68 (g : cw_G) (n : Nat) (I : Nat → Nat → Int32) (A : Nat → Nat → Int32) (J : Nat → Nat → Int64) (t : Bool × Bool) (x1 : Int32) (x2 : Int32) (x3 : Int32) (hb : pb_X12_sunAt_68 n I A J t x1 x2 x3) : Cd g mX12_sunAt [(.ref (cw_z g + 68)), (.int x1), (.int x2), (.int x3)] (hp g I A J t) (some (.int (px_X12_sunAt_68 n I A J t x1 x2 x3))) (hp g I A J t) := by
  unfold pb_X12_sunAt_68 at hb
  unfold px_X12_sunAt_68
  refine Cd.of rfl (Nat.le_of_ble_eq_true rfl) (ev_gen (fun Q hQ => ?_))
  refine ev_iload_n (pc := 0) dX12_sunAt_0 rfl ?_
  refine ev_aload_n (pc := 1) dX12_sunAt_1 rfl ?_
  refine tv_getr (pc := 2) (d := 89) dX12_sunAt_2 fl_X12_80 (by decide) rfl rfl ?_
  refine ev_iload_n (pc := 5) dX12_sunAt_5 rfl ?_
  refine ev_iald (pc := 6) dX12_sunAt_6 (by decide) rfl hb.1 ?_
  replace hb := hb.2
  refine ev_iadd (pc := 7) dX12_sunAt_7 ?_
  refine ev_bipush (pc := 8) (v := 24) dX12_sunAt_8 (by decide) ?_
  refine ev_rem (pc := 10) dX12_sunAt_10 (by decide) ?_
  refine ev_is (y := (q11_X12_sunAt_68 n I A J t x1 x2 x3)) rfl ?_
  refine ev_istore_4 (pc := 11) dX12_sunAt_11 (by decide) rfl ?_
  refine ev_iload_n (pc := 13) dX12_sunAt_13 rfl ?_
  refine ev_bipush (pc := 14) (v := 90) dX12_sunAt_14 (by decide) ?_
  refine ev_idiv (pc := 16) dX12_sunAt_16 (by decide) ?_
  refine ev_iconst (pc := 17) (v := 4) dX12_sunAt_17 (by decide) ?_
  refine ev_rem (pc := 18) dX12_sunAt_18 (by decide) ?_
  refine ev_is (y := (q19_X12_sunAt_68 n I A J t x1 x2 x3)) rfl ?_
  refine ev_istore_5 (pc := 19) dX12_sunAt_19 (by decide) rfl ?_
  refine ev_aload_n (pc := 21) dX12_sunAt_21 rfl ?_
  refine tv_getr (pc := 22) (d := 90) dX12_sunAt_22 fl_X12_83 (by decide) rfl rfl ?_
  refine ev_iload_n (pc := 25) dX12_sunAt_25 rfl ?_
  refine ev_iald (pc := 26) dX12_sunAt_26 (by decide) rfl hb.1 ?_
  replace hb := hb.2
  refine ev_iconst (pc := 27) (v := 3) dX12_sunAt_27 (by decide) ?_
  refine ev_cut (pj := 36) (Lj := [some (.ref (cw_z g + 68)), some (.int x1), some (.int x2), some (.int x3), some (.int (q11_X12_sunAt_68 n I A J t x1 x2 x3)), some (.int (q19_X12_sunAt_68 n I A J t x1 x2 x3)), none, none, none, none]) (stj := [(.int (qs0m28_X12_sunAt_68 n I A J t x1 x2 x3))]) (σj := hp g I A J t) ?_ (fun hJ_28 => ?_)
  rotate_left
  · refine ev_icmp_ge (pc := 28) (tgt := 35) dX12_sunAt_28 (by decide) (fun c_28 => ?_) (fun c_28 => ?_)
    · refine ev_iconst (pc := 35) (v := 0) dX12_sunAt_35 (by decide) ?_
      simp only [qs0m28_X12_sunAt_68, if_pos c_28] at hJ_28
      exact ev_loc hJ_28 cw_le0
    · refine ev_iconst (pc := 31) (v := 1) dX12_sunAt_31 (by decide) ?_
      refine ev_goto (pc := 32) (tgt := 36) dX12_sunAt_32 (by decide) ?_
      simp only [qs0m28_X12_sunAt_68, if_neg c_28] at hJ_28
      exact ev_loc hJ_28 cw_le0
  refine ev_istore_6 (pc := 36) dX12_sunAt_36 (by decide) rfl ?_
  refine ev_aload_n (pc := 38) dX12_sunAt_38 rfl ?_
  refine tv_getr (pc := 39) (d := 90) dX12_sunAt_39 fl_X12_83 (by decide) rfl rfl ?_
  refine ev_iload_n (pc := 42) dX12_sunAt_42 rfl ?_
  refine ev_iald (pc := 43) dX12_sunAt_43 (by decide) rfl hb ?_
  refine ev_iconst (pc := 44) (v := 3) dX12_sunAt_44 (by decide) ?_
  refine ev_cut (pj := 53) (Lj := [some (.ref (cw_z g + 68)), some (.int x1), some (.int x2), some (.int x3), some (.int (q11_X12_sunAt_68 n I A J t x1 x2 x3)), some (.int (q19_X12_sunAt_68 n I A J t x1 x2 x3)), some (.int (qs0m28_X12_sunAt_68 n I A J t x1 x2 x3)), none, none, none]) (stj := [(.int (qs0m45_X12_sunAt_68 n I A J t x1 x2 x3))]) (σj := hp g I A J t) ?_ (fun hJ_45 => ?_)
  rotate_left
  · refine ev_icmp_le (pc := 45) (tgt := 52) dX12_sunAt_45 (by decide) (fun c_45 => ?_) (fun c_45 => ?_)
    · refine ev_iconst (pc := 52) (v := 0) dX12_sunAt_52 (by decide) ?_
      simp only [qs0m45_X12_sunAt_68, if_pos c_45] at hJ_45
      exact ev_loc hJ_45 cw_le0
    · refine ev_iconst (pc := 48) (v := 1) dX12_sunAt_48 (by decide) ?_
      refine ev_goto (pc := 49) (tgt := 53) dX12_sunAt_49 (by decide) ?_
      simp only [qs0m45_X12_sunAt_68, if_neg c_45] at hJ_45
      exact ev_loc hJ_45 cw_le0
  refine ev_istore_7 (pc := 53) dX12_sunAt_53 (by decide) rfl ?_
  refine ev_iload (pc := 55) dX12_sunAt_55 rfl ?_
  refine ev_cut (pj := 82) (Lj := [some (.ref (cw_z g + 68)), some (.int x1), some (.int x2), some (.int x3), some (.int (q11_X12_sunAt_68 n I A J t x1 x2 x3)), some (.int (q19_X12_sunAt_68 n I A J t x1 x2 x3)), some (.int (qs0m28_X12_sunAt_68 n I A J t x1 x2 x3)), some (.int (qs0m45_X12_sunAt_68 n I A J t x1 x2 x3)), none, none]) (stj := [(.int (qs0m57_X12_sunAt_68 n I A J t x1 x2 x3))]) (σj := hp g I A J t) ?_ (fun hJ_57 => ?_)
  rotate_left
  · refine ev_if_eq (pc := 57) (tgt := 66) dX12_sunAt_57 (by decide) (fun c_57 => ?_) (fun c_57 => ?_)
    · refine ev_iload (pc := 66) dX12_sunAt_66 rfl ?_
      refine ev_cut (pj := 82) (Lj := [some (.ref (cw_z g + 68)), some (.int x1), some (.int x2), some (.int x3), some (.int (q11_X12_sunAt_68 n I A J t x1 x2 x3)), some (.int (q19_X12_sunAt_68 n I A J t x1 x2 x3)), some (.int (qs0m28_X12_sunAt_68 n I A J t x1 x2 x3)), some (.int (qs0m45_X12_sunAt_68 n I A J t x1 x2 x3)), none, none]) (stj := [(.int (qs0m68_X12_sunAt_68 n I A J t x1 x2 x3))]) (σj := hp g I A J t) ?_ (fun hJ_68 => ?_)
      rotate_left
      · refine ev_if_eq (pc := 68) (tgt := 81) dX12_sunAt_68 (by decide) (fun c_68 => ?_) (fun c_68 => ?_)
        · refine ev_iconst (pc := 81) (v := 0) dX12_sunAt_81 (by decide) ?_
          simp only [qs0m68_X12_sunAt_68, if_pos c_68] at hJ_68
          exact ev_loc hJ_68 cw_le0
        · refine ev_iload (pc := 71) dX12_sunAt_71 rfl ?_
          refine ev_iconst (pc := 73) (v := 3) dX12_sunAt_73 (by decide) ?_
          refine ev_cut (pj := 82) (Lj := [some (.ref (cw_z g + 68)), some (.int x1), some (.int x2), some (.int x3), some (.int (q11_X12_sunAt_68 n I A J t x1 x2 x3)), some (.int (q19_X12_sunAt_68 n I A J t x1 x2 x3)), some (.int (qs0m28_X12_sunAt_68 n I A J t x1 x2 x3)), some (.int (qs0m45_X12_sunAt_68 n I A J t x1 x2 x3)), none, none]) (stj := [(.int (qs0m74_X12_sunAt_68 n I A J t x1 x2 x3))]) (σj := hp g I A J t) ?_ (fun hJ_74 => ?_)
          rotate_left
          · refine ev_icmp_ne (pc := 74) (tgt := 81) dX12_sunAt_74 (by decide) (fun c_74 => ?_) (fun c_74 => ?_)
            · refine ev_iconst (pc := 81) (v := 0) dX12_sunAt_81 (by decide) ?_
              simp only [qs0m74_X12_sunAt_68, if_neg c_74] at hJ_74
              exact ev_loc hJ_74 cw_le0
            · refine ev_iconst (pc := 77) (v := 1) dX12_sunAt_77 (by decide) ?_
              refine ev_goto (pc := 78) (tgt := 82) dX12_sunAt_78 (by decide) ?_
              simp only [qs0m74_X12_sunAt_68, if_pos c_74] at hJ_74
              exact ev_loc hJ_74 cw_le0
          simp only [qs0m68_X12_sunAt_68, if_neg c_68] at hJ_68
          exact ev_loc hJ_68 cw_le0
      simp only [qs0m57_X12_sunAt_68, if_pos c_57] at hJ_57
      exact ev_loc hJ_57 cw_le0
    · refine ev_iload (pc := 60) dX12_sunAt_60 rfl ?_
      refine ev_iconst (pc := 62) (v := 1) dX12_sunAt_62 (by decide) ?_
      refine ev_cut (pj := 82) (Lj := [some (.ref (cw_z g + 68)), some (.int x1), some (.int x2), some (.int x3), some (.int (q11_X12_sunAt_68 n I A J t x1 x2 x3)), some (.int (q19_X12_sunAt_68 n I A J t x1 x2 x3)), some (.int (qs0m28_X12_sunAt_68 n I A J t x1 x2 x3)), some (.int (qs0m45_X12_sunAt_68 n I A J t x1 x2 x3)), none, none]) (stj := [(.int (qs0m63_X12_sunAt_68 n I A J t x1 x2 x3))]) (σj := hp g I A J t) ?_ (fun hJ_63 => ?_)
      rotate_left
      · refine ev_icmp_eq (pc := 63) (tgt := 77) dX12_sunAt_63 (by decide) (fun c_63 => ?_) (fun c_63 => ?_)
        · refine ev_iconst (pc := 77) (v := 1) dX12_sunAt_77 (by decide) ?_
          refine ev_goto (pc := 78) (tgt := 82) dX12_sunAt_78 (by decide) ?_
          simp only [qs0m63_X12_sunAt_68, if_pos c_63] at hJ_63
          exact ev_loc hJ_63 cw_le0
        · refine ev_iload (pc := 66) dX12_sunAt_66 rfl ?_
          refine ev_cut (pj := 82) (Lj := [some (.ref (cw_z g + 68)), some (.int x1), some (.int x2), some (.int x3), some (.int (q11_X12_sunAt_68 n I A J t x1 x2 x3)), some (.int (q19_X12_sunAt_68 n I A J t x1 x2 x3)), some (.int (qs0m28_X12_sunAt_68 n I A J t x1 x2 x3)), some (.int (qs0m45_X12_sunAt_68 n I A J t x1 x2 x3)), none, none]) (stj := [(.int (qs0m68_X12_sunAt_68 n I A J t x1 x2 x3))]) (σj := hp g I A J t) ?_ (fun hJ_68 => ?_)
          rotate_left
          · refine ev_if_eq (pc := 68) (tgt := 81) dX12_sunAt_68 (by decide) (fun c_68 => ?_) (fun c_68 => ?_)
            · refine ev_iconst (pc := 81) (v := 0) dX12_sunAt_81 (by decide) ?_
              simp only [qs0m68_X12_sunAt_68, if_pos c_68] at hJ_68
              exact ev_loc hJ_68 cw_le0
            · refine ev_iload (pc := 71) dX12_sunAt_71 rfl ?_
              refine ev_iconst (pc := 73) (v := 3) dX12_sunAt_73 (by decide) ?_
              refine ev_cut (pj := 82) (Lj := [some (.ref (cw_z g + 68)), some (.int x1), some (.int x2), some (.int x3), some (.int (q11_X12_sunAt_68 n I A J t x1 x2 x3)), some (.int (q19_X12_sunAt_68 n I A J t x1 x2 x3)), some (.int (qs0m28_X12_sunAt_68 n I A J t x1 x2 x3)), some (.int (qs0m45_X12_sunAt_68 n I A J t x1 x2 x3)), none, none]) (stj := [(.int (qs0m74_X12_sunAt_68 n I A J t x1 x2 x3))]) (σj := hp g I A J t) ?_ (fun hJ_74 => ?_)
              rotate_left
              · refine ev_icmp_ne (pc := 74) (tgt := 81) dX12_sunAt_74 (by decide) (fun c_74 => ?_) (fun c_74 => ?_)
                · refine ev_iconst (pc := 81) (v := 0) dX12_sunAt_81 (by decide) ?_
                  simp only [qs0m74_X12_sunAt_68, if_neg c_74] at hJ_74
                  exact ev_loc hJ_74 cw_le0
                · refine ev_iconst (pc := 77) (v := 1) dX12_sunAt_77 (by decide) ?_
                  refine ev_goto (pc := 78) (tgt := 82) dX12_sunAt_78 (by decide) ?_
                  simp only [qs0m74_X12_sunAt_68, if_pos c_74] at hJ_74
                  exact ev_loc hJ_74 cw_le0
              simp only [qs0m68_X12_sunAt_68, if_neg c_68] at hJ_68
              exact ev_loc hJ_68 cw_le0
          simp only [qs0m63_X12_sunAt_68, if_neg c_63] at hJ_63
          exact ev_loc hJ_63 cw_le0
      simp only [qs0m57_X12_sunAt_68, if_neg c_57] at hJ_57
      exact ev_loc hJ_57 cw_le0
  refine ev_istore_8 (pc := 82) dX12_sunAt_82 (by decide) rfl ?_
  refine ev_iload (pc := 84) dX12_sunAt_84 rfl ?_
  refine ev_cut (pj := 111) (Lj := [some (.ref (cw_z g + 68)), some (.int x1), some (.int x2), some (.int x3), some (.int (q11_X12_sunAt_68 n I A J t x1 x2 x3)), some (.int (q19_X12_sunAt_68 n I A J t x1 x2 x3)), some (.int (qs0m28_X12_sunAt_68 n I A J t x1 x2 x3)), some (.int (qs0m45_X12_sunAt_68 n I A J t x1 x2 x3)), some (.int (qs0m57_X12_sunAt_68 n I A J t x1 x2 x3)), none]) (stj := [(.int (qs0m86_X12_sunAt_68 n I A J t x1 x2 x3))]) (σj := hp g I A J t) ?_ (fun hJ_86 => ?_)
  rotate_left
  · refine ev_if_eq (pc := 86) (tgt := 95) dX12_sunAt_86 (by decide) (fun c_86 => ?_) (fun c_86 => ?_)
    · refine ev_iload (pc := 95) dX12_sunAt_95 rfl ?_
      refine ev_cut (pj := 111) (Lj := [some (.ref (cw_z g + 68)), some (.int x1), some (.int x2), some (.int x3), some (.int (q11_X12_sunAt_68 n I A J t x1 x2 x3)), some (.int (q19_X12_sunAt_68 n I A J t x1 x2 x3)), some (.int (qs0m28_X12_sunAt_68 n I A J t x1 x2 x3)), some (.int (qs0m45_X12_sunAt_68 n I A J t x1 x2 x3)), some (.int (qs0m57_X12_sunAt_68 n I A J t x1 x2 x3)), none]) (stj := [(.int (qs0m97_X12_sunAt_68 n I A J t x1 x2 x3))]) (σj := hp g I A J t) ?_ (fun hJ_97 => ?_)
      rotate_left
      · refine ev_if_eq (pc := 97) (tgt := 110) dX12_sunAt_97 (by decide) (fun c_97 => ?_) (fun c_97 => ?_)
        · refine ev_iconst (pc := 110) (v := 0) dX12_sunAt_110 (by decide) ?_
          simp only [qs0m97_X12_sunAt_68, if_pos c_97] at hJ_97
          exact ev_loc hJ_97 cw_le0
        · refine ev_iload (pc := 100) dX12_sunAt_100 rfl ?_
          refine ev_iconst (pc := 102) (v := 3) dX12_sunAt_102 (by decide) ?_
          refine ev_cut (pj := 111) (Lj := [some (.ref (cw_z g + 68)), some (.int x1), some (.int x2), some (.int x3), some (.int (q11_X12_sunAt_68 n I A J t x1 x2 x3)), some (.int (q19_X12_sunAt_68 n I A J t x1 x2 x3)), some (.int (qs0m28_X12_sunAt_68 n I A J t x1 x2 x3)), some (.int (qs0m45_X12_sunAt_68 n I A J t x1 x2 x3)), some (.int (qs0m57_X12_sunAt_68 n I A J t x1 x2 x3)), none]) (stj := [(.int (qs0m74_X12_sunAt_68 n I A J t x1 x2 x3))]) (σj := hp g I A J t) ?_ (fun hJ_103 => ?_)
          rotate_left
          · refine ev_icmp_ne (pc := 103) (tgt := 110) dX12_sunAt_103 (by decide) (fun c_103 => ?_) (fun c_103 => ?_)
            · refine ev_iconst (pc := 110) (v := 0) dX12_sunAt_110 (by decide) ?_
              simp only [qs0m74_X12_sunAt_68, if_neg c_103] at hJ_103
              exact ev_loc hJ_103 cw_le0
            · refine ev_iconst (pc := 106) (v := 1) dX12_sunAt_106 (by decide) ?_
              refine ev_goto (pc := 107) (tgt := 111) dX12_sunAt_107 (by decide) ?_
              simp only [qs0m74_X12_sunAt_68, if_pos c_103] at hJ_103
              exact ev_loc hJ_103 cw_le0
          simp only [qs0m97_X12_sunAt_68, if_neg c_97] at hJ_97
          exact ev_loc hJ_97 cw_le0
      simp only [qs0m86_X12_sunAt_68, if_pos c_86] at hJ_86
      exact ev_loc hJ_86 cw_le0
    · refine ev_iload (pc := 89) dX12_sunAt_89 rfl ?_
      refine ev_iconst (pc := 91) (v := 1) dX12_sunAt_91 (by decide) ?_
      refine ev_cut (pj := 111) (Lj := [some (.ref (cw_z g + 68)), some (.int x1), some (.int x2), some (.int x3), some (.int (q11_X12_sunAt_68 n I A J t x1 x2 x3)), some (.int (q19_X12_sunAt_68 n I A J t x1 x2 x3)), some (.int (qs0m28_X12_sunAt_68 n I A J t x1 x2 x3)), some (.int (qs0m45_X12_sunAt_68 n I A J t x1 x2 x3)), some (.int (qs0m57_X12_sunAt_68 n I A J t x1 x2 x3)), none]) (stj := [(.int (qs0m92_X12_sunAt_68 n I A J t x1 x2 x3))]) (σj := hp g I A J t) ?_ (fun hJ_92 => ?_)
      rotate_left
      · refine ev_icmp_eq (pc := 92) (tgt := 106) dX12_sunAt_92 (by decide) (fun c_92 => ?_) (fun c_92 => ?_)
        · refine ev_iconst (pc := 106) (v := 1) dX12_sunAt_106 (by decide) ?_
          refine ev_goto (pc := 107) (tgt := 111) dX12_sunAt_107 (by decide) ?_
          simp only [qs0m92_X12_sunAt_68, if_pos c_92] at hJ_92
          exact ev_loc hJ_92 cw_le0
        · refine ev_iload (pc := 95) dX12_sunAt_95 rfl ?_
          refine ev_cut (pj := 111) (Lj := [some (.ref (cw_z g + 68)), some (.int x1), some (.int x2), some (.int x3), some (.int (q11_X12_sunAt_68 n I A J t x1 x2 x3)), some (.int (q19_X12_sunAt_68 n I A J t x1 x2 x3)), some (.int (qs0m28_X12_sunAt_68 n I A J t x1 x2 x3)), some (.int (qs0m45_X12_sunAt_68 n I A J t x1 x2 x3)), some (.int (qs0m57_X12_sunAt_68 n I A J t x1 x2 x3)), none]) (stj := [(.int (qs0m97_X12_sunAt_68 n I A J t x1 x2 x3))]) (σj := hp g I A J t) ?_ (fun hJ_97 => ?_)
          rotate_left
          · refine ev_if_eq (pc := 97) (tgt := 110) dX12_sunAt_97 (by decide) (fun c_97 => ?_) (fun c_97 => ?_)
            · refine ev_iconst (pc := 110) (v := 0) dX12_sunAt_110 (by decide) ?_
              simp only [qs0m97_X12_sunAt_68, if_pos c_97] at hJ_97
              exact ev_loc hJ_97 cw_le0
            · refine ev_iload (pc := 100) dX12_sunAt_100 rfl ?_
              refine ev_iconst (pc := 102) (v := 3) dX12_sunAt_102 (by decide) ?_
              refine ev_cut (pj := 111) (Lj := [some (.ref (cw_z g + 68)), some (.int x1), some (.int x2), some (.int x3), some (.int (q11_X12_sunAt_68 n I A J t x1 x2 x3)), some (.int (q19_X12_sunAt_68 n I A J t x1 x2 x3)), some (.int (qs0m28_X12_sunAt_68 n I A J t x1 x2 x3)), some (.int (qs0m45_X12_sunAt_68 n I A J t x1 x2 x3)), some (.int (qs0m57_X12_sunAt_68 n I A J t x1 x2 x3)), none]) (stj := [(.int (qs0m74_X12_sunAt_68 n I A J t x1 x2 x3))]) (σj := hp g I A J t) ?_ (fun hJ_103 => ?_)
              rotate_left
              · refine ev_icmp_ne (pc := 103) (tgt := 110) dX12_sunAt_103 (by decide) (fun c_103 => ?_) (fun c_103 => ?_)
                · refine ev_iconst (pc := 110) (v := 0) dX12_sunAt_110 (by decide) ?_
                  simp only [qs0m74_X12_sunAt_68, if_neg c_103] at hJ_103
                  exact ev_loc hJ_103 cw_le0
                · refine ev_iconst (pc := 106) (v := 1) dX12_sunAt_106 (by decide) ?_
                  refine ev_goto (pc := 107) (tgt := 111) dX12_sunAt_107 (by decide) ?_
                  simp only [qs0m74_X12_sunAt_68, if_pos c_103] at hJ_103
                  exact ev_loc hJ_103 cw_le0
              simp only [qs0m97_X12_sunAt_68, if_neg c_97] at hJ_97
              exact ev_loc hJ_97 cw_le0
          simp only [qs0m92_X12_sunAt_68, if_neg c_92] at hJ_92
          exact ev_loc hJ_92 cw_le0
      simp only [qs0m86_X12_sunAt_68, if_neg c_86] at hJ_86
      exact ev_loc hJ_86 cw_le0
  refine ev_istore_9 (pc := 111) dX12_sunAt_111 (by decide) rfl ?_
  refine ev_iload (pc := 113) dX12_sunAt_113 rfl ?_
  refine ev_if_eq (pc := 115) (tgt := 154) dX12_sunAt_115 (by decide) (fun c_115 => ?_) (fun c_115 => ?_)
  · try simp only [if_pos c_115] at hQ
    refine ev_iload (pc := 154) dX12_sunAt_154 rfl ?_
    refine ev_if_eq (pc := 156) (tgt := 197) dX12_sunAt_156 (by decide) (fun c_156 => ?_) (fun c_156 => ?_)
    · try simp only [if_pos c_156] at hQ
      refine ev_iload (pc := 197) dX12_sunAt_197 rfl ?_
      refine ev_bipush (pc := 199) (v := 7) dX12_sunAt_199 (by decide) ?_
      refine ev_icmp_lt (pc := 201) (tgt := 213) dX12_sunAt_201 (by decide) (fun c_201 => ?_) (fun c_201 => ?_)
      · try simp only [if_pos c_201] at hQ
        refine ev_iload (pc := 213) dX12_sunAt_213 rfl ?_
        refine ev_iconst (pc := 215) (v := 5) dX12_sunAt_215 (by decide) ?_
        refine ev_cut (pj := 245) (Lj := [some (.ref (cw_z g + 68)), some (.int x1), some (.int x2), some (.int x3), some (.int (q11_X12_sunAt_68 n I A J t x1 x2 x3)), some (.int (q19_X12_sunAt_68 n I A J t x1 x2 x3)), some (.int (qs0m28_X12_sunAt_68 n I A J t x1 x2 x3)), some (.int (qs0m45_X12_sunAt_68 n I A J t x1 x2 x3)), some (.int (qs0m57_X12_sunAt_68 n I A J t x1 x2 x3)), some (.int (qs0m86_X12_sunAt_68 n I A J t x1 x2 x3))]) (stj := [(.int (qs0m216_X12_sunAt_68 n I A J t x1 x2 x3))]) (σj := hp g I A J t) ?_ (fun hJ_216 => ?_)
        rotate_left
        · refine ev_icmp_eq (pc := 216) (tgt := 240) dX12_sunAt_216 (by decide) (fun c_216 => ?_) (fun c_216 => ?_)
          · refine ev_iconst (pc := 240) (v := 1) dX12_sunAt_240 (by decide) ?_
            refine ev_goto (pc := 241) (tgt := 245) dX12_sunAt_241 (by decide) ?_
            simp only [qs0m216_X12_sunAt_68, if_pos c_216] at hJ_216
            exact ev_loc hJ_216 cw_le0
          · refine ev_iload (pc := 219) dX12_sunAt_219 rfl ?_
            refine ev_bipush (pc := 221) (v := 6) dX12_sunAt_221 (by decide) ?_
            refine ev_cut (pj := 245) (Lj := [some (.ref (cw_z g + 68)), some (.int x1), some (.int x2), some (.int x3), some (.int (q11_X12_sunAt_68 n I A J t x1 x2 x3)), some (.int (q19_X12_sunAt_68 n I A J t x1 x2 x3)), some (.int (qs0m28_X12_sunAt_68 n I A J t x1 x2 x3)), some (.int (qs0m45_X12_sunAt_68 n I A J t x1 x2 x3)), some (.int (qs0m57_X12_sunAt_68 n I A J t x1 x2 x3)), some (.int (qs0m86_X12_sunAt_68 n I A J t x1 x2 x3))]) (stj := [(.int (qs0m223_X12_sunAt_68 n I A J t x1 x2 x3))]) (σj := hp g I A J t) ?_ (fun hJ_223 => ?_)
            rotate_left
            · refine ev_icmp_eq (pc := 223) (tgt := 240) dX12_sunAt_223 (by decide) (fun c_223 => ?_) (fun c_223 => ?_)
              · refine ev_iconst (pc := 240) (v := 1) dX12_sunAt_240 (by decide) ?_
                refine ev_goto (pc := 241) (tgt := 245) dX12_sunAt_241 (by decide) ?_
                simp only [qs0m223_X12_sunAt_68, if_pos c_223] at hJ_223
                exact ev_loc hJ_223 cw_le0
              · refine ev_iload (pc := 226) dX12_sunAt_226 rfl ?_
                refine ev_bipush (pc := 228) (v := 17) dX12_sunAt_228 (by decide) ?_
                refine ev_cut (pj := 245) (Lj := [some (.ref (cw_z g + 68)), some (.int x1), some (.int x2), some (.int x3), some (.int (q11_X12_sunAt_68 n I A J t x1 x2 x3)), some (.int (q19_X12_sunAt_68 n I A J t x1 x2 x3)), some (.int (qs0m28_X12_sunAt_68 n I A J t x1 x2 x3)), some (.int (qs0m45_X12_sunAt_68 n I A J t x1 x2 x3)), some (.int (qs0m57_X12_sunAt_68 n I A J t x1 x2 x3)), some (.int (qs0m86_X12_sunAt_68 n I A J t x1 x2 x3))]) (stj := [(.int (qs0m230_X12_sunAt_68 n I A J t x1 x2 x3))]) (σj := hp g I A J t) ?_ (fun hJ_230 => ?_)
                rotate_left
                · refine ev_icmp_eq (pc := 230) (tgt := 240) dX12_sunAt_230 (by decide) (fun c_230 => ?_) (fun c_230 => ?_)
                  · refine ev_iconst (pc := 240) (v := 1) dX12_sunAt_240 (by decide) ?_
                    refine ev_goto (pc := 241) (tgt := 245) dX12_sunAt_241 (by decide) ?_
                    simp only [qs0m230_X12_sunAt_68, if_pos c_230] at hJ_230
                    exact ev_loc hJ_230 cw_le0
                  · refine ev_iload (pc := 233) dX12_sunAt_233 rfl ?_
                    refine ev_bipush (pc := 235) (v := 18) dX12_sunAt_235 (by decide) ?_
                    refine ev_cut (pj := 245) (Lj := [some (.ref (cw_z g + 68)), some (.int x1), some (.int x2), some (.int x3), some (.int (q11_X12_sunAt_68 n I A J t x1 x2 x3)), some (.int (q19_X12_sunAt_68 n I A J t x1 x2 x3)), some (.int (qs0m28_X12_sunAt_68 n I A J t x1 x2 x3)), some (.int (qs0m45_X12_sunAt_68 n I A J t x1 x2 x3)), some (.int (qs0m57_X12_sunAt_68 n I A J t x1 x2 x3)), some (.int (qs0m86_X12_sunAt_68 n I A J t x1 x2 x3))]) (stj := [(.int (qs0m237_X12_sunAt_68 n I A J t x1 x2 x3))]) (σj := hp g I A J t) ?_ (fun hJ_237 => ?_)
                    rotate_left
                    · refine ev_icmp_ne (pc := 237) (tgt := 244) dX12_sunAt_237 (by decide) (fun c_237 => ?_) (fun c_237 => ?_)
                      · refine ev_iconst (pc := 244) (v := 0) dX12_sunAt_244 (by decide) ?_
                        simp only [qs0m237_X12_sunAt_68, if_neg c_237] at hJ_237
                        exact ev_loc hJ_237 cw_le0
                      · refine ev_iconst (pc := 240) (v := 1) dX12_sunAt_240 (by decide) ?_
                        refine ev_goto (pc := 241) (tgt := 245) dX12_sunAt_241 (by decide) ?_
                        simp only [qs0m237_X12_sunAt_68, if_pos c_237] at hJ_237
                        exact ev_loc hJ_237 cw_le0
                    simp only [qs0m230_X12_sunAt_68, if_neg c_230] at hJ_230
                    exact ev_loc hJ_230 cw_le0
                simp only [qs0m223_X12_sunAt_68, if_neg c_223] at hJ_223
                exact ev_loc hJ_223 cw_le0
            simp only [qs0m216_X12_sunAt_68, if_neg c_216] at hJ_216
            exact ev_loc hJ_216 cw_le0
        exact ev_iret (pc := 245) dX12_sunAt_245 rfl (by decide) (by decide) (hQ _ _ ⟨rfl, rfl⟩)
      · try simp only [if_neg c_201] at hQ
        refine ev_iload (pc := 204) dX12_sunAt_204 rfl ?_
        refine ev_bipush (pc := 206) (v := 16) dX12_sunAt_206 (by decide) ?_
        refine ev_icmp_gt (pc := 208) (tgt := 213) dX12_sunAt_208 (by decide) (fun c_208 => ?_) (fun c_208 => ?_)
        · try simp only [if_pos c_208] at hQ
          refine ev_iload (pc := 213) dX12_sunAt_213 rfl ?_
          refine ev_iconst (pc := 215) (v := 5) dX12_sunAt_215 (by decide) ?_
          refine ev_cut (pj := 245) (Lj := [some (.ref (cw_z g + 68)), some (.int x1), some (.int x2), some (.int x3), some (.int (q11_X12_sunAt_68 n I A J t x1 x2 x3)), some (.int (q19_X12_sunAt_68 n I A J t x1 x2 x3)), some (.int (qs0m28_X12_sunAt_68 n I A J t x1 x2 x3)), some (.int (qs0m45_X12_sunAt_68 n I A J t x1 x2 x3)), some (.int (qs0m57_X12_sunAt_68 n I A J t x1 x2 x3)), some (.int (qs0m86_X12_sunAt_68 n I A J t x1 x2 x3))]) (stj := [(.int (qs0m216_X12_sunAt_68 n I A J t x1 x2 x3))]) (σj := hp g I A J t) ?_ (fun hJ_216 => ?_)
          rotate_left
          · refine ev_icmp_eq (pc := 216) (tgt := 240) dX12_sunAt_216 (by decide) (fun c_216 => ?_) (fun c_216 => ?_)
            · refine ev_iconst (pc := 240) (v := 1) dX12_sunAt_240 (by decide) ?_
              refine ev_goto (pc := 241) (tgt := 245) dX12_sunAt_241 (by decide) ?_
              simp only [qs0m216_X12_sunAt_68, if_pos c_216] at hJ_216
              exact ev_loc hJ_216 cw_le0
            · refine ev_iload (pc := 219) dX12_sunAt_219 rfl ?_
              refine ev_bipush (pc := 221) (v := 6) dX12_sunAt_221 (by decide) ?_
              refine ev_cut (pj := 245) (Lj := [some (.ref (cw_z g + 68)), some (.int x1), some (.int x2), some (.int x3), some (.int (q11_X12_sunAt_68 n I A J t x1 x2 x3)), some (.int (q19_X12_sunAt_68 n I A J t x1 x2 x3)), some (.int (qs0m28_X12_sunAt_68 n I A J t x1 x2 x3)), some (.int (qs0m45_X12_sunAt_68 n I A J t x1 x2 x3)), some (.int (qs0m57_X12_sunAt_68 n I A J t x1 x2 x3)), some (.int (qs0m86_X12_sunAt_68 n I A J t x1 x2 x3))]) (stj := [(.int (qs0m223_X12_sunAt_68 n I A J t x1 x2 x3))]) (σj := hp g I A J t) ?_ (fun hJ_223 => ?_)
              rotate_left
              · refine ev_icmp_eq (pc := 223) (tgt := 240) dX12_sunAt_223 (by decide) (fun c_223 => ?_) (fun c_223 => ?_)
                · refine ev_iconst (pc := 240) (v := 1) dX12_sunAt_240 (by decide) ?_
                  refine ev_goto (pc := 241) (tgt := 245) dX12_sunAt_241 (by decide) ?_
                  simp only [qs0m223_X12_sunAt_68, if_pos c_223] at hJ_223
                  exact ev_loc hJ_223 cw_le0
                · refine ev_iload (pc := 226) dX12_sunAt_226 rfl ?_
                  refine ev_bipush (pc := 228) (v := 17) dX12_sunAt_228 (by decide) ?_
                  refine ev_cut (pj := 245) (Lj := [some (.ref (cw_z g + 68)), some (.int x1), some (.int x2), some (.int x3), some (.int (q11_X12_sunAt_68 n I A J t x1 x2 x3)), some (.int (q19_X12_sunAt_68 n I A J t x1 x2 x3)), some (.int (qs0m28_X12_sunAt_68 n I A J t x1 x2 x3)), some (.int (qs0m45_X12_sunAt_68 n I A J t x1 x2 x3)), some (.int (qs0m57_X12_sunAt_68 n I A J t x1 x2 x3)), some (.int (qs0m86_X12_sunAt_68 n I A J t x1 x2 x3))]) (stj := [(.int (qs0m230_X12_sunAt_68 n I A J t x1 x2 x3))]) (σj := hp g I A J t) ?_ (fun hJ_230 => ?_)
                  rotate_left
                  · refine ev_icmp_eq (pc := 230) (tgt := 240) dX12_sunAt_230 (by decide) (fun c_230 => ?_) (fun c_230 => ?_)
                    · refine ev_iconst (pc := 240) (v := 1) dX12_sunAt_240 (by decide) ?_
                      refine ev_goto (pc := 241) (tgt := 245) dX12_sunAt_241 (by decide) ?_
                      simp only [qs0m230_X12_sunAt_68, if_pos c_230] at hJ_230
                      exact ev_loc hJ_230 cw_le0
                    · refine ev_iload (pc := 233) dX12_sunAt_233 rfl ?_
                      refine ev_bipush (pc := 235) (v := 18) dX12_sunAt_235 (by decide) ?_
                      refine ev_cut (pj := 245) (Lj := [some (.ref (cw_z g + 68)), some (.int x1), some (.int x2), some (.int x3), some (.int (q11_X12_sunAt_68 n I A J t x1 x2 x3)), some (.int (q19_X12_sunAt_68 n I A J t x1 x2 x3)), some (.int (qs0m28_X12_sunAt_68 n I A J t x1 x2 x3)), some (.int (qs0m45_X12_sunAt_68 n I A J t x1 x2 x3)), some (.int (qs0m57_X12_sunAt_68 n I A J t x1 x2 x3)), some (.int (qs0m86_X12_sunAt_68 n I A J t x1 x2 x3))]) (stj := [(.int (qs0m237_X12_sunAt_68 n I A J t x1 x2 x3))]) (σj := hp g I A J t) ?_ (fun hJ_237 => ?_)
                      rotate_left
                      · refine ev_icmp_ne (pc := 237) (tgt := 244) dX12_sunAt_237 (by decide) (fun c_237 => ?_) (fun c_237 => ?_)
                        · refine ev_iconst (pc := 244) (v := 0) dX12_sunAt_244 (by decide) ?_
                          simp only [qs0m237_X12_sunAt_68, if_neg c_237] at hJ_237
                          exact ev_loc hJ_237 cw_le0
                        · refine ev_iconst (pc := 240) (v := 1) dX12_sunAt_240 (by decide) ?_
                          refine ev_goto (pc := 241) (tgt := 245) dX12_sunAt_241 (by decide) ?_
                          simp only [qs0m237_X12_sunAt_68, if_pos c_237] at hJ_237
                          exact ev_loc hJ_237 cw_le0
                      simp only [qs0m230_X12_sunAt_68, if_neg c_230] at hJ_230
                      exact ev_loc hJ_230 cw_le0
                  simp only [qs0m223_X12_sunAt_68, if_neg c_223] at hJ_223
                  exact ev_loc hJ_223 cw_le0
              simp only [qs0m216_X12_sunAt_68, if_neg c_216] at hJ_216
              exact ev_loc hJ_216 cw_le0
          exact ev_iret (pc := 245) dX12_sunAt_245 rfl (by decide) (by decide) (hQ _ _ ⟨rfl, rfl⟩)
        · try simp only [if_neg c_208] at hQ
          refine ev_iconst (pc := 211) (v := 2) dX12_sunAt_211 (by decide) ?_
          exact ev_iret (pc := 212) dX12_sunAt_212 rfl (by decide) (by decide) (hQ _ _ ⟨rfl, rfl⟩)
    · try simp only [if_neg c_156] at hQ
      refine ev_iload (pc := 159) dX12_sunAt_159 rfl ?_
      refine ev_bipush (pc := 161) (v := 8) dX12_sunAt_161 (by decide) ?_
      refine ev_cut (pj := 196) (Lj := [some (.ref (cw_z g + 68)), some (.int x1), some (.int x2), some (.int x3), some (.int (q11_X12_sunAt_68 n I A J t x1 x2 x3)), some (.int (q19_X12_sunAt_68 n I A J t x1 x2 x3)), some (.int (qs0m28_X12_sunAt_68 n I A J t x1 x2 x3)), some (.int (qs0m45_X12_sunAt_68 n I A J t x1 x2 x3)), some (.int (qs0m57_X12_sunAt_68 n I A J t x1 x2 x3)), some (.int (qs0m86_X12_sunAt_68 n I A J t x1 x2 x3))]) (stj := [(.int (qs0m163_X12_sunAt_68 n I A J t x1 x2 x3))]) (σj := hp g I A J t) ?_ (fun hJ_163 => ?_)
      rotate_left
      · refine ev_icmp_lt (pc := 163) (tgt := 177) dX12_sunAt_163 (by decide) (fun c_163 => ?_) (fun c_163 => ?_)
        · refine ev_iload (pc := 177) dX12_sunAt_177 rfl ?_
          refine ev_bipush (pc := 179) (v := 7) dX12_sunAt_179 (by decide) ?_
          refine ev_cut (pj := 196) (Lj := [some (.ref (cw_z g + 68)), some (.int x1), some (.int x2), some (.int x3), some (.int (q11_X12_sunAt_68 n I A J t x1 x2 x3)), some (.int (q19_X12_sunAt_68 n I A J t x1 x2 x3)), some (.int (qs0m28_X12_sunAt_68 n I A J t x1 x2 x3)), some (.int (qs0m45_X12_sunAt_68 n I A J t x1 x2 x3)), some (.int (qs0m57_X12_sunAt_68 n I A J t x1 x2 x3)), some (.int (qs0m86_X12_sunAt_68 n I A J t x1 x2 x3))]) (stj := [(.int (qs0m181_X12_sunAt_68 n I A J t x1 x2 x3))]) (σj := hp g I A J t) ?_ (fun hJ_181 => ?_)
          rotate_left
          · refine ev_icmp_eq (pc := 181) (tgt := 191) dX12_sunAt_181 (by decide) (fun c_181 => ?_) (fun c_181 => ?_)
            · refine ev_iconst (pc := 191) (v := 1) dX12_sunAt_191 (by decide) ?_
              refine ev_goto (pc := 192) (tgt := 196) dX12_sunAt_192 (by decide) ?_
              simp only [qs0m181_X12_sunAt_68, if_pos c_181] at hJ_181
              exact ev_loc hJ_181 cw_le0
            · refine ev_iload (pc := 184) dX12_sunAt_184 rfl ?_
              refine ev_bipush (pc := 186) (v := 16) dX12_sunAt_186 (by decide) ?_
              refine ev_cut (pj := 196) (Lj := [some (.ref (cw_z g + 68)), some (.int x1), some (.int x2), some (.int x3), some (.int (q11_X12_sunAt_68 n I A J t x1 x2 x3)), some (.int (q19_X12_sunAt_68 n I A J t x1 x2 x3)), some (.int (qs0m28_X12_sunAt_68 n I A J t x1 x2 x3)), some (.int (qs0m45_X12_sunAt_68 n I A J t x1 x2 x3)), some (.int (qs0m57_X12_sunAt_68 n I A J t x1 x2 x3)), some (.int (qs0m86_X12_sunAt_68 n I A J t x1 x2 x3))]) (stj := [(.int (qs0m188_X12_sunAt_68 n I A J t x1 x2 x3))]) (σj := hp g I A J t) ?_ (fun hJ_188 => ?_)
              rotate_left
              · refine ev_icmp_ne (pc := 188) (tgt := 195) dX12_sunAt_188 (by decide) (fun c_188 => ?_) (fun c_188 => ?_)
                · refine ev_iconst (pc := 195) (v := 0) dX12_sunAt_195 (by decide) ?_
                  simp only [qs0m188_X12_sunAt_68, if_neg c_188] at hJ_188
                  exact ev_loc hJ_188 cw_le0
                · refine ev_iconst (pc := 191) (v := 1) dX12_sunAt_191 (by decide) ?_
                  refine ev_goto (pc := 192) (tgt := 196) dX12_sunAt_192 (by decide) ?_
                  simp only [qs0m188_X12_sunAt_68, if_pos c_188] at hJ_188
                  exact ev_loc hJ_188 cw_le0
              simp only [qs0m181_X12_sunAt_68, if_neg c_181] at hJ_181
              exact ev_loc hJ_181 cw_le0
          simp only [qs0m163_X12_sunAt_68, if_pos c_163] at hJ_163
          exact ev_loc hJ_163 cw_le0
        · refine ev_iload (pc := 166) dX12_sunAt_166 rfl ?_
          refine ev_bipush (pc := 168) (v := 15) dX12_sunAt_168 (by decide) ?_
          refine ev_cut (pj := 196) (Lj := [some (.ref (cw_z g + 68)), some (.int x1), some (.int x2), some (.int x3), some (.int (q11_X12_sunAt_68 n I A J t x1 x2 x3)), some (.int (q19_X12_sunAt_68 n I A J t x1 x2 x3)), some (.int (qs0m28_X12_sunAt_68 n I A J t x1 x2 x3)), some (.int (qs0m45_X12_sunAt_68 n I A J t x1 x2 x3)), some (.int (qs0m57_X12_sunAt_68 n I A J t x1 x2 x3)), some (.int (qs0m86_X12_sunAt_68 n I A J t x1 x2 x3))]) (stj := [(.int (qs0m170_X12_sunAt_68 n I A J t x1 x2 x3))]) (σj := hp g I A J t) ?_ (fun hJ_170 => ?_)
          rotate_left
          · refine ev_icmp_gt (pc := 170) (tgt := 177) dX12_sunAt_170 (by decide) (fun c_170 => ?_) (fun c_170 => ?_)
            · refine ev_iload (pc := 177) dX12_sunAt_177 rfl ?_
              refine ev_bipush (pc := 179) (v := 7) dX12_sunAt_179 (by decide) ?_
              refine ev_cut (pj := 196) (Lj := [some (.ref (cw_z g + 68)), some (.int x1), some (.int x2), some (.int x3), some (.int (q11_X12_sunAt_68 n I A J t x1 x2 x3)), some (.int (q19_X12_sunAt_68 n I A J t x1 x2 x3)), some (.int (qs0m28_X12_sunAt_68 n I A J t x1 x2 x3)), some (.int (qs0m45_X12_sunAt_68 n I A J t x1 x2 x3)), some (.int (qs0m57_X12_sunAt_68 n I A J t x1 x2 x3)), some (.int (qs0m86_X12_sunAt_68 n I A J t x1 x2 x3))]) (stj := [(.int (qs0m181_X12_sunAt_68 n I A J t x1 x2 x3))]) (σj := hp g I A J t) ?_ (fun hJ_181 => ?_)
              rotate_left
              · refine ev_icmp_eq (pc := 181) (tgt := 191) dX12_sunAt_181 (by decide) (fun c_181 => ?_) (fun c_181 => ?_)
                · refine ev_iconst (pc := 191) (v := 1) dX12_sunAt_191 (by decide) ?_
                  refine ev_goto (pc := 192) (tgt := 196) dX12_sunAt_192 (by decide) ?_
                  simp only [qs0m181_X12_sunAt_68, if_pos c_181] at hJ_181
                  exact ev_loc hJ_181 cw_le0
                · refine ev_iload (pc := 184) dX12_sunAt_184 rfl ?_
                  refine ev_bipush (pc := 186) (v := 16) dX12_sunAt_186 (by decide) ?_
                  refine ev_cut (pj := 196) (Lj := [some (.ref (cw_z g + 68)), some (.int x1), some (.int x2), some (.int x3), some (.int (q11_X12_sunAt_68 n I A J t x1 x2 x3)), some (.int (q19_X12_sunAt_68 n I A J t x1 x2 x3)), some (.int (qs0m28_X12_sunAt_68 n I A J t x1 x2 x3)), some (.int (qs0m45_X12_sunAt_68 n I A J t x1 x2 x3)), some (.int (qs0m57_X12_sunAt_68 n I A J t x1 x2 x3)), some (.int (qs0m86_X12_sunAt_68 n I A J t x1 x2 x3))]) (stj := [(.int (qs0m188_X12_sunAt_68 n I A J t x1 x2 x3))]) (σj := hp g I A J t) ?_ (fun hJ_188 => ?_)
                  rotate_left
                  · refine ev_icmp_ne (pc := 188) (tgt := 195) dX12_sunAt_188 (by decide) (fun c_188 => ?_) (fun c_188 => ?_)
                    · refine ev_iconst (pc := 195) (v := 0) dX12_sunAt_195 (by decide) ?_
                      simp only [qs0m188_X12_sunAt_68, if_neg c_188] at hJ_188
                      exact ev_loc hJ_188 cw_le0
                    · refine ev_iconst (pc := 191) (v := 1) dX12_sunAt_191 (by decide) ?_
                      refine ev_goto (pc := 192) (tgt := 196) dX12_sunAt_192 (by decide) ?_
                      simp only [qs0m188_X12_sunAt_68, if_pos c_188] at hJ_188
                      exact ev_loc hJ_188 cw_le0
                  simp only [qs0m181_X12_sunAt_68, if_neg c_181] at hJ_181
                  exact ev_loc hJ_181 cw_le0
              simp only [qs0m170_X12_sunAt_68, if_pos c_170] at hJ_170
              exact ev_loc hJ_170 cw_le0
            · refine ev_iconst (pc := 173) (v := 2) dX12_sunAt_173 (by decide) ?_
              refine ev_goto (pc := 174) (tgt := 196) dX12_sunAt_174 (by decide) ?_
              simp only [qs0m170_X12_sunAt_68, if_neg c_170] at hJ_170
              exact ev_loc hJ_170 cw_le0
          simp only [qs0m163_X12_sunAt_68, if_neg c_163] at hJ_163
          exact ev_loc hJ_163 cw_le0
      exact ev_iret (pc := 196) dX12_sunAt_196 rfl (by decide) (by decide) (hQ _ _ ⟨rfl, rfl⟩)
  · try simp only [if_neg c_115] at hQ
    refine ev_iload (pc := 118) dX12_sunAt_118 rfl ?_
    refine ev_iconst (pc := 120) (v := 5) dX12_sunAt_120 (by decide) ?_
    refine ev_cut (pj := 153) (Lj := [some (.ref (cw_z g + 68)), some (.int x1), some (.int x2), some (.int x3), some (.int (q11_X12_sunAt_68 n I A J t x1 x2 x3)), some (.int (q19_X12_sunAt_68 n I A J t x1 x2 x3)), some (.int (qs0m28_X12_sunAt_68 n I A J t x1 x2 x3)), some (.int (qs0m45_X12_sunAt_68 n I A J t x1 x2 x3)), some (.int (qs0m57_X12_sunAt_68 n I A J t x1 x2 x3)), some (.int (qs0m86_X12_sunAt_68 n I A J t x1 x2 x3))]) (stj := [(.int (qs0m121_X12_sunAt_68 n I A J t x1 x2 x3))]) (σj := hp g I A J t) ?_ (fun hJ_121 => ?_)
    rotate_left
    · refine ev_icmp_lt (pc := 121) (tgt := 135) dX12_sunAt_121 (by decide) (fun c_121 => ?_) (fun c_121 => ?_)
      · refine ev_iload (pc := 135) dX12_sunAt_135 rfl ?_
        refine ev_iconst (pc := 137) (v := 4) dX12_sunAt_137 (by decide) ?_
        refine ev_cut (pj := 153) (Lj := [some (.ref (cw_z g + 68)), some (.int x1), some (.int x2), some (.int x3), some (.int (q11_X12_sunAt_68 n I A J t x1 x2 x3)), some (.int (q19_X12_sunAt_68 n I A J t x1 x2 x3)), some (.int (qs0m28_X12_sunAt_68 n I A J t x1 x2 x3)), some (.int (qs0m45_X12_sunAt_68 n I A J t x1 x2 x3)), some (.int (qs0m57_X12_sunAt_68 n I A J t x1 x2 x3)), some (.int (qs0m86_X12_sunAt_68 n I A J t x1 x2 x3))]) (stj := [(.int (qs0m138_X12_sunAt_68 n I A J t x1 x2 x3))]) (σj := hp g I A J t) ?_ (fun hJ_138 => ?_)
        rotate_left
        · refine ev_icmp_eq (pc := 138) (tgt := 148) dX12_sunAt_138 (by decide) (fun c_138 => ?_) (fun c_138 => ?_)
          · refine ev_iconst (pc := 148) (v := 1) dX12_sunAt_148 (by decide) ?_
            refine ev_goto (pc := 149) (tgt := 153) dX12_sunAt_149 (by decide) ?_
            simp only [qs0m138_X12_sunAt_68, if_pos c_138] at hJ_138
            exact ev_loc hJ_138 cw_le0
          · refine ev_iload (pc := 141) dX12_sunAt_141 rfl ?_
            refine ev_bipush (pc := 143) (v := 19) dX12_sunAt_143 (by decide) ?_
            refine ev_cut (pj := 153) (Lj := [some (.ref (cw_z g + 68)), some (.int x1), some (.int x2), some (.int x3), some (.int (q11_X12_sunAt_68 n I A J t x1 x2 x3)), some (.int (q19_X12_sunAt_68 n I A J t x1 x2 x3)), some (.int (qs0m28_X12_sunAt_68 n I A J t x1 x2 x3)), some (.int (qs0m45_X12_sunAt_68 n I A J t x1 x2 x3)), some (.int (qs0m57_X12_sunAt_68 n I A J t x1 x2 x3)), some (.int (qs0m86_X12_sunAt_68 n I A J t x1 x2 x3))]) (stj := [(.int (qs0m145_X12_sunAt_68 n I A J t x1 x2 x3))]) (σj := hp g I A J t) ?_ (fun hJ_145 => ?_)
            rotate_left
            · refine ev_icmp_ne (pc := 145) (tgt := 152) dX12_sunAt_145 (by decide) (fun c_145 => ?_) (fun c_145 => ?_)
              · refine ev_iconst (pc := 152) (v := 0) dX12_sunAt_152 (by decide) ?_
                simp only [qs0m145_X12_sunAt_68, if_neg c_145] at hJ_145
                exact ev_loc hJ_145 cw_le0
              · refine ev_iconst (pc := 148) (v := 1) dX12_sunAt_148 (by decide) ?_
                refine ev_goto (pc := 149) (tgt := 153) dX12_sunAt_149 (by decide) ?_
                simp only [qs0m145_X12_sunAt_68, if_pos c_145] at hJ_145
                exact ev_loc hJ_145 cw_le0
            simp only [qs0m138_X12_sunAt_68, if_neg c_138] at hJ_138
            exact ev_loc hJ_138 cw_le0
        simp only [qs0m121_X12_sunAt_68, if_pos c_121] at hJ_121
        exact ev_loc hJ_121 cw_le0
      · refine ev_iload (pc := 124) dX12_sunAt_124 rfl ?_
        refine ev_bipush (pc := 126) (v := 18) dX12_sunAt_126 (by decide) ?_
        refine ev_cut (pj := 153) (Lj := [some (.ref (cw_z g + 68)), some (.int x1), some (.int x2), some (.int x3), some (.int (q11_X12_sunAt_68 n I A J t x1 x2 x3)), some (.int (q19_X12_sunAt_68 n I A J t x1 x2 x3)), some (.int (qs0m28_X12_sunAt_68 n I A J t x1 x2 x3)), some (.int (qs0m45_X12_sunAt_68 n I A J t x1 x2 x3)), some (.int (qs0m57_X12_sunAt_68 n I A J t x1 x2 x3)), some (.int (qs0m86_X12_sunAt_68 n I A J t x1 x2 x3))]) (stj := [(.int (qs0m128_X12_sunAt_68 n I A J t x1 x2 x3))]) (σj := hp g I A J t) ?_ (fun hJ_128 => ?_)
        rotate_left
        · refine ev_icmp_gt (pc := 128) (tgt := 135) dX12_sunAt_128 (by decide) (fun c_128 => ?_) (fun c_128 => ?_)
          · refine ev_iload (pc := 135) dX12_sunAt_135 rfl ?_
            refine ev_iconst (pc := 137) (v := 4) dX12_sunAt_137 (by decide) ?_
            refine ev_cut (pj := 153) (Lj := [some (.ref (cw_z g + 68)), some (.int x1), some (.int x2), some (.int x3), some (.int (q11_X12_sunAt_68 n I A J t x1 x2 x3)), some (.int (q19_X12_sunAt_68 n I A J t x1 x2 x3)), some (.int (qs0m28_X12_sunAt_68 n I A J t x1 x2 x3)), some (.int (qs0m45_X12_sunAt_68 n I A J t x1 x2 x3)), some (.int (qs0m57_X12_sunAt_68 n I A J t x1 x2 x3)), some (.int (qs0m86_X12_sunAt_68 n I A J t x1 x2 x3))]) (stj := [(.int (qs0m138_X12_sunAt_68 n I A J t x1 x2 x3))]) (σj := hp g I A J t) ?_ (fun hJ_138 => ?_)
            rotate_left
            · refine ev_icmp_eq (pc := 138) (tgt := 148) dX12_sunAt_138 (by decide) (fun c_138 => ?_) (fun c_138 => ?_)
              · refine ev_iconst (pc := 148) (v := 1) dX12_sunAt_148 (by decide) ?_
                refine ev_goto (pc := 149) (tgt := 153) dX12_sunAt_149 (by decide) ?_
                simp only [qs0m138_X12_sunAt_68, if_pos c_138] at hJ_138
                exact ev_loc hJ_138 cw_le0
              · refine ev_iload (pc := 141) dX12_sunAt_141 rfl ?_
                refine ev_bipush (pc := 143) (v := 19) dX12_sunAt_143 (by decide) ?_
                refine ev_cut (pj := 153) (Lj := [some (.ref (cw_z g + 68)), some (.int x1), some (.int x2), some (.int x3), some (.int (q11_X12_sunAt_68 n I A J t x1 x2 x3)), some (.int (q19_X12_sunAt_68 n I A J t x1 x2 x3)), some (.int (qs0m28_X12_sunAt_68 n I A J t x1 x2 x3)), some (.int (qs0m45_X12_sunAt_68 n I A J t x1 x2 x3)), some (.int (qs0m57_X12_sunAt_68 n I A J t x1 x2 x3)), some (.int (qs0m86_X12_sunAt_68 n I A J t x1 x2 x3))]) (stj := [(.int (qs0m145_X12_sunAt_68 n I A J t x1 x2 x3))]) (σj := hp g I A J t) ?_ (fun hJ_145 => ?_)
                rotate_left
                · refine ev_icmp_ne (pc := 145) (tgt := 152) dX12_sunAt_145 (by decide) (fun c_145 => ?_) (fun c_145 => ?_)
                  · refine ev_iconst (pc := 152) (v := 0) dX12_sunAt_152 (by decide) ?_
                    simp only [qs0m145_X12_sunAt_68, if_neg c_145] at hJ_145
                    exact ev_loc hJ_145 cw_le0
                  · refine ev_iconst (pc := 148) (v := 1) dX12_sunAt_148 (by decide) ?_
                    refine ev_goto (pc := 149) (tgt := 153) dX12_sunAt_149 (by decide) ?_
                    simp only [qs0m145_X12_sunAt_68, if_pos c_145] at hJ_145
                    exact ev_loc hJ_145 cw_le0
                simp only [qs0m138_X12_sunAt_68, if_neg c_138] at hJ_138
                exact ev_loc hJ_138 cw_le0
            simp only [qs0m128_X12_sunAt_68, if_pos c_128] at hJ_128
            exact ev_loc hJ_128 cw_le0
          · refine ev_iconst (pc := 131) (v := 2) dX12_sunAt_131 (by decide) ?_
            refine ev_goto (pc := 132) (tgt := 153) dX12_sunAt_132 (by decide) ?_
            simp only [qs0m128_X12_sunAt_68, if_neg c_128] at hJ_128
            exact ev_loc hJ_128 cw_le0
        simp only [qs0m121_X12_sunAt_68, if_neg c_121] at hJ_121
        exact ev_loc hJ_121 cw_le0
    exact ev_iret (pc := 153) dX12_sunAt_153 rfl (by decide) (by decide) (hQ _ _ ⟨rfl, rfl⟩)

def qs0m37_X12_sun_68 (n : Nat) (I : Nat → Nat → Int32) (A : Nat → Nat → Int32) (J : Nat → Nat → Int64) (t : Bool × Bool) (x1 : Int32) (x2 : Int32) (x3 : Int32) (x4 : Int32) : Int32 := if (px_X12_isHour n I A J t x4) = 0 then (-1) else (px_X12_sunAt_68 n I A J t x2 x3 x4)
def qs0m29_X12_sun_68 (n : Nat) (I : Nat → Nat → Int32) (A : Nat → Nat → Int32) (J : Nat → Nat → Int64) (t : Bool × Bool) (x1 : Int32) (x2 : Int32) (x3 : Int32) (x4 : Int32) : Int32 := if (px_X12_isDay n I A J t x3) = 0 then (-1) else (qs0m37_X12_sun_68 n I A J t x1 x2 x3 x4)
def qs0m37_1_X12_sun_68 (n : Nat) (I : Nat → Nat → Int32) (A : Nat → Nat → Int32) (J : Nat → Nat → Int64) (t : Bool × Bool) (x1 : Int32) (x2 : Int32) (x3 : Int32) (x4 : Int32) : Int32 := if (px_X12_isHour n I A J t x4) = 0 then (-1) else (px_X12_sunAt_68 n I A J t ((8 : Int32) + x2) x3 x4)
def qs0m29_2_X12_sun_68 (n : Nat) (I : Nat → Nat → Int32) (A : Nat → Nat → Int32) (J : Nat → Nat → Int64) (t : Bool × Bool) (x1 : Int32) (x2 : Int32) (x3 : Int32) (x4 : Int32) : Int32 := if (px_X12_isDay n I A J t x3) = 0 then (-1) else (qs0m37_1_X12_sun_68 n I A J t x1 x2 x3 x4)
def pb_X12_sun_68 (n : Nat) (I : Nat → Nat → Int32) (A : Nat → Nat → Int32) (J : Nat → Nat → Int64) (t : Bool × Bool) (x1 : Int32) (x2 : Int32) (x3 : Int32) (x4 : Int32) : Prop := (x1 = 0 → (¬ (px_X12_isLand_68 n I A J t x2) = 0 → (¬ (px_X12_isDay n I A J t x3) = 0 → (¬ (px_X12_isHour n I A J t x4) = 0 → pb_X12_sunAt_68 n I A J t x2 x3 x4)))) ∧ (¬ x1 = 0 → (¬ (px_X12_isSite_68 n I A J t x2) = 0 → (¬ (px_X12_isDay n I A J t x3) = 0 → (¬ (px_X12_isHour n I A J t x4) = 0 → pb_X12_sunAt_68 n I A J t ((8 : Int32) + x2) x3 x4))))
def px_X12_sun_68 (n : Nat) (I : Nat → Nat → Int32) (A : Nat → Nat → Int32) (J : Nat → Nat → Int64) (t : Bool × Bool) (x1 : Int32) (x2 : Int32) (x3 : Int32) (x4 : Int32) : Int32 := (if x1 = 0 then (if (px_X12_isLand_68 n I A J t x2) = 0 then (-1) else (qs0m29_X12_sun_68 n I A J t x1 x2 x3 x4)) else (if (px_X12_isSite_68 n I A J t x2) = 0 then (-1) else (qs0m29_2_X12_sun_68 n I A J t x1 x2 x3 x4)))
set_option maxRecDepth 100000 in
set_option maxHeartbeats 4000000 in
theorem cv_X12_sun_68 (g : cw_G) (n : Nat) (I : Nat → Nat → Int32) (A : Nat → Nat → Int32) (J : Nat → Nat → Int64) (t : Bool × Bool) (x1 : Int32) (x2 : Int32) (x3 : Int32) (x4 : Int32) (hb : pb_X12_sun_68 n I A J t x1 x2 x3 x4) : Cd g mX12_sun [(.ref (cw_z g + 68)), (.int x1), (.int x2), (.int x3), (.int x4)] (hp g I A J t) (some (.int (px_X12_sun_68 n I A J t x1 x2 x3 x4))) (hp g I A J t) := by
  unfold pb_X12_sun_68 at hb
  unfold px_X12_sun_68
  refine Cd.of rfl (Nat.le_of_ble_eq_true rfl) (ev_gen (fun Q hQ => ?_))
  refine ev_iload_n (pc := 0) dX12_sun_0 rfl ?_
  obtain ⟨hT_1, hF_1⟩ := hb
  refine ev_if_eq (pc := 1) (tgt := 15) dX12_sun_1 (by decide) (fun c_1 => ?_) (fun c_1 => ?_)
  · have hb := hT_1 c_1
    try simp only [if_pos c_1] at hQ
    refine ev_aload_n (pc := 15) dX12_sun_15 rfl ?_
    refine ev_iload_n (pc := 16) dX12_sun_16 rfl ?_
    refine ev_Vi (pc := 17) dX12_sun_17 lk_X12_298 cd_X12_isLand ar_X12_isLand ⟨by decide, rfl, rfl⟩ (cv_X12_isLand_68 g n I A J t x2) (show 68 < 120 by decide) rfl rfl rfl rfl (Nat.le_of_ble_eq_true rfl) ⟨by decide, by decide⟩ ?_
    have hT_20 := hb
    refine ev_if_ne (pc := 20) (tgt := 25) dX12_sun_20 (by decide) (fun c_20 => ?_) (fun c_20 => ?_)
    · have hb := hT_20 c_20
      try simp only [if_neg c_20] at hQ
      refine ev_iload_n (pc := 25) dX12_sun_25 rfl ?_
      refine ev_Si (pc := 26) dX12_sun_26 lk_X12_304 cd_X12_isDay ar_X12_isDay ⟨by decide, rfl, rfl⟩ (cv_X12_isDay g n I A J t x3) rfl rfl (Nat.le_of_ble_eq_true rfl) ⟨by decide, by decide⟩ ?_
      have hF_29 := hb
      refine ev_cut (pj := 63) (Lj := [some (.ref (cw_z g + 68)), some (.int x1), some (.int x2), some (.int x3), some (.int x4)]) (stj := [(.int (qs0m29_X12_sun_68 n I A J t x1 x2 x3 x4))]) (σj := hp g I A J t) ?_ (fun hJ_29 => ?_)
      rotate_left
      · refine ev_if_eq (pc := 29) (tgt := 62) dX12_sun_29 (by decide) (fun c_29 => ?_) (fun c_29 => ?_)
        · refine ev_iconst (pc := 62) (v := (-1)) dX12_sun_62 (by decide) ?_
          simp only [qs0m29_X12_sun_68, if_pos c_29] at hJ_29
          exact ev_loc hJ_29 cw_le0
        · have hb := hF_29 c_29
          refine ev_iload (pc := 32) dX12_sun_32 rfl ?_
          refine ev_Si (pc := 34) dX12_sun_34 lk_X12_310 cd_X12_isHour ar_X12_isHour ⟨by decide, rfl, rfl⟩ (cv_X12_isHour g n I A J t x4) rfl rfl (Nat.le_of_ble_eq_true rfl) ⟨by decide, by decide⟩ ?_
          have hF_37 := hb
          refine ev_cut (pj := 63) (Lj := [some (.ref (cw_z g + 68)), some (.int x1), some (.int x2), some (.int x3), some (.int x4)]) (stj := [(.int (qs0m37_X12_sun_68 n I A J t x1 x2 x3 x4))]) (σj := hp g I A J t) ?_ (fun hJ_37 => ?_)
          rotate_left
          · refine ev_if_eq (pc := 37) (tgt := 62) dX12_sun_37 (by decide) (fun c_37 => ?_) (fun c_37 => ?_)
            · refine ev_iconst (pc := 62) (v := (-1)) dX12_sun_62 (by decide) ?_
              simp only [qs0m37_X12_sun_68, if_pos c_37] at hJ_37
              exact ev_loc hJ_37 cw_le0
            · have hb := hF_37 c_37
              refine ev_aload_n (pc := 40) dX12_sun_40 rfl ?_
              refine ev_iload_n (pc := 41) dX12_sun_41 rfl ?_
              refine ev_if_eq (pc := 42) (tgt := 52) dX12_sun_42 (by decide) (fun c_42 => ?_) (fun c_42 => absurd c_1 c_42)
              refine ev_iload_n (pc := 52) dX12_sun_52 rfl ?_
              refine ev_iload_n (pc := 53) dX12_sun_53 rfl ?_
              refine ev_iload (pc := 54) dX12_sun_54 rfl ?_
              refine ev_Vi (pc := 56) dX12_sun_56 lk_X12_329 cd_X12_sunAt ar_X12_sunAt ⟨by decide, rfl, rfl⟩ (cv_X12_sunAt_68 g n I A J t x2 x3 x4 hb) (show 68 < 120 by decide) rfl rfl rfl rfl (Nat.le_of_ble_eq_true rfl) ⟨by decide, by decide⟩ ?_
              refine ev_goto (pc := 59) (tgt := 63) dX12_sun_59 (by decide) ?_
              simp only [qs0m37_X12_sun_68, if_neg c_37] at hJ_37
              exact ev_loc hJ_37 cw_le0
          simp only [qs0m29_X12_sun_68, if_neg c_29] at hJ_29
          exact ev_loc hJ_29 cw_le0
      exact ev_iret (pc := 63) dX12_sun_63 rfl (by decide) (by decide) (hQ _ _ ⟨rfl, rfl⟩)
    · try simp only [if_pos c_20] at hQ
      refine ev_iconst (pc := 23) (v := (-1)) dX12_sun_23 (by decide) ?_
      exact ev_iret (pc := 24) dX12_sun_24 rfl (by decide) (by decide) (hQ _ _ ⟨rfl, rfl⟩)
  · have hb := hF_1 c_1
    try simp only [if_neg c_1] at hQ
    refine ev_aload_n (pc := 4) dX12_sun_4 rfl ?_
    refine ev_iload_n (pc := 5) dX12_sun_5 rfl ?_
    refine ev_Vi (pc := 6) dX12_sun_6 lk_X12_292 cd_X12_isSite ar_X12_isSite ⟨by decide, rfl, rfl⟩ (cv_X12_isSite_68 g n I A J t x2) (show 68 < 120 by decide) rfl rfl rfl rfl (Nat.le_of_ble_eq_true rfl) ⟨by decide, by decide⟩ ?_
    have hT_9 := hb
    refine ev_if_ne (pc := 9) (tgt := 25) dX12_sun_9 (by decide) (fun c_9 => ?_) (fun c_9 => ?_)
    · have hb := hT_9 c_9
      try simp only [if_neg c_9] at hQ
      refine ev_iload_n (pc := 25) dX12_sun_25 rfl ?_
      refine ev_Si (pc := 26) dX12_sun_26 lk_X12_304 cd_X12_isDay ar_X12_isDay ⟨by decide, rfl, rfl⟩ (cv_X12_isDay g n I A J t x3) rfl rfl (Nat.le_of_ble_eq_true rfl) ⟨by decide, by decide⟩ ?_
      have hF_29 := hb
      refine ev_cut (pj := 63) (Lj := [some (.ref (cw_z g + 68)), some (.int x1), some (.int x2), some (.int x3), some (.int x4)]) (stj := [(.int (qs0m29_2_X12_sun_68 n I A J t x1 x2 x3 x4))]) (σj := hp g I A J t) ?_ (fun hJ_29 => ?_)
      rotate_left
      · refine ev_if_eq (pc := 29) (tgt := 62) dX12_sun_29 (by decide) (fun c_29 => ?_) (fun c_29 => ?_)
        · refine ev_iconst (pc := 62) (v := (-1)) dX12_sun_62 (by decide) ?_
          simp only [qs0m29_2_X12_sun_68, if_pos c_29] at hJ_29
          exact ev_loc hJ_29 cw_le0
        · have hb := hF_29 c_29
          refine ev_iload (pc := 32) dX12_sun_32 rfl ?_
          refine ev_Si (pc := 34) dX12_sun_34 lk_X12_310 cd_X12_isHour ar_X12_isHour ⟨by decide, rfl, rfl⟩ (cv_X12_isHour g n I A J t x4) rfl rfl (Nat.le_of_ble_eq_true rfl) ⟨by decide, by decide⟩ ?_
          have hF_37 := hb
          refine ev_cut (pj := 63) (Lj := [some (.ref (cw_z g + 68)), some (.int x1), some (.int x2), some (.int x3), some (.int x4)]) (stj := [(.int (qs0m37_1_X12_sun_68 n I A J t x1 x2 x3 x4))]) (σj := hp g I A J t) ?_ (fun hJ_37 => ?_)
          rotate_left
          · refine ev_if_eq (pc := 37) (tgt := 62) dX12_sun_37 (by decide) (fun c_37 => ?_) (fun c_37 => ?_)
            · refine ev_iconst (pc := 62) (v := (-1)) dX12_sun_62 (by decide) ?_
              simp only [qs0m37_1_X12_sun_68, if_pos c_37] at hJ_37
              exact ev_loc hJ_37 cw_le0
            · have hb := hF_37 c_37
              refine ev_aload_n (pc := 40) dX12_sun_40 rfl ?_
              refine ev_iload_n (pc := 41) dX12_sun_41 rfl ?_
              refine ev_if_eq (pc := 42) (tgt := 52) dX12_sun_42 (by decide) (fun c_42 => absurd c_42 c_1) (fun c_42 => ?_)
              refine ev_bipush (pc := 45) (v := 8) dX12_sun_45 (by decide) ?_
              refine ev_iload_n (pc := 47) dX12_sun_47 rfl ?_
              refine ev_iadd (pc := 48) dX12_sun_48 ?_
              refine ev_goto (pc := 49) (tgt := 53) dX12_sun_49 (by decide) ?_
              refine ev_iload_n (pc := 53) dX12_sun_53 rfl ?_
              refine ev_iload (pc := 54) dX12_sun_54 rfl ?_
              refine ev_Vi (pc := 56) dX12_sun_56 lk_X12_329 cd_X12_sunAt ar_X12_sunAt ⟨by decide, rfl, rfl⟩ (cv_X12_sunAt_68 g n I A J t ((8 : Int32) + x2) x3 x4 hb) (show 68 < 120 by decide) rfl rfl rfl rfl (Nat.le_of_ble_eq_true rfl) ⟨by decide, by decide⟩ ?_
              refine ev_goto (pc := 59) (tgt := 63) dX12_sun_59 (by decide) ?_
              simp only [qs0m37_1_X12_sun_68, if_neg c_37] at hJ_37
              exact ev_loc hJ_37 cw_le0
          simp only [qs0m29_2_X12_sun_68, if_neg c_29] at hJ_29
          exact ev_loc hJ_29 cw_le0
      exact ev_iret (pc := 63) dX12_sun_63 rfl (by decide) (by decide) (hQ _ _ ⟨rfl, rfl⟩)
    · try simp only [if_pos c_9] at hQ
      refine ev_goto (pc := 12) (tgt := 23) dX12_sun_12 (by decide) ?_
      refine ev_iconst (pc := 23) (v := (-1)) dX12_sun_23 (by decide) ?_
      exact ev_iret (pc := 24) dX12_sun_24 rfl (by decide) (by decide) (hQ _ _ ⟨rfl, rfl⟩)

def q16_X12_toldBy_68 (n : Nat) (I : Nat → Nat → Int32) (A : Nat → Nat → Int32) (J : Nat → Nat → Int64) (t : Bool × Bool) (x1 : Int32) (x2 : Int32) (x3 : Int32) (x4 : Int32) (x5 : Int32) : Int32 := (cw_rem (x4 / 90) 4)
def q54_X12_toldBy_68 (n : Nat) (I : Nat → Nat → Int32) (A : Nat → Nat → Int32) (J : Nat → Nat → Int64) (t : Bool × Bool) (x1 : Int32) (x2 : Int32) (x3 : Int32) (x4 : Int32) (x5 : Int32) : Int32 := (((((((px_X12_sunAt_68 n (pI_X12_goes_68 n I A J t ((8 : Int32) + x1) x2) A J t ((8 : Int32) + x1) x4 x5) * 3) + (px_X12_sunAt_68 n (pI_X12_goes_68 n I A J t ((8 : Int32) + x1) x2) A J t x2 x4 x5)) * 5) + (px_X12_far_68 n (pI_X12_goes_68 n I A J t ((8 : Int32) + x1) x2) A J t )) * 6) + x3)
def qs0m65_X12_toldBy_68 (n : Nat) (I : Nat → Nat → Int32) (A : Nat → Nat → Int32) (J : Nat → Nat → Int64) (t : Bool × Bool) (x1 : Int32) (x2 : Int32) (x3 : Int32) (x4 : Int32) (x5 : Int32) : Int32 := if (A 97 ((q16_X12_toldBy_68 n I A J t x1 x2 x3 x4 x5)).toNatClampNeg) ≤ (q54_X12_toldBy_68 n I A J t x1 x2 x3 x4 x5) then (-1000000) else (A 98 ((((270 : Int32) * (q16_X12_toldBy_68 n I A J t x1 x2 x3 x4 x5)) + (q54_X12_toldBy_68 n I A J t x1 x2 x3 x4 x5))).toNatClampNeg)
def pb_X12_toldBy_68 (n : Nat) (I : Nat → Nat → Int32) (A : Nat → Nat → Int32) (J : Nat → Nat → Int64) (t : Bool × Bool) (x1 : Int32) (x2 : Int32) (x3 : Int32) (x4 : Int32) (x5 : Int32) : Prop := pb_X12_goes_68 n I A J t ((8 : Int32) + x1) x2 ∧ pb_X12_sunAt_68 n (pI_X12_goes_68 n I A J t ((8 : Int32) + x1) x2) A J t ((8 : Int32) + x1) x4 x5 ∧ pb_X12_sunAt_68 n (pI_X12_goes_68 n I A J t ((8 : Int32) + x1) x2) A J t x2 x4 x5 ∧ vp_in (q16_X12_toldBy_68 n I A J t x1 x2 x3 x4 x5) 4 ∧ (¬ (A 97 ((q16_X12_toldBy_68 n I A J t x1 x2 x3 x4 x5)).toNatClampNeg) ≤ (q54_X12_toldBy_68 n I A J t x1 x2 x3 x4 x5) → vp_in (((270 : Int32) * (q16_X12_toldBy_68 n I A J t x1 x2 x3 x4 x5)) + (q54_X12_toldBy_68 n I A J t x1 x2 x3 x4 x5)) 1080)
def px_X12_toldBy_68 (n : Nat) (I : Nat → Nat → Int32) (A : Nat → Nat → Int32) (J : Nat → Nat → Int64) (t : Bool × Bool) (x1 : Int32) (x2 : Int32) (x3 : Int32) (x4 : Int32) (x5 : Int32) : Int32 := (qs0m65_X12_toldBy_68 n I A J t x1 x2 x3 x4 x5)
def pI_X12_toldBy_68 (n : Nat) (I : Nat → Nat → Int32) (A : Nat → Nat → Int32) (J : Nat → Nat → Int64) (t : Bool × Bool) (x1 : Int32) (x2 : Int32) (x3 : Int32) (x4 : Int32) (x5 : Int32) : Nat → Nat → Int32 := (pI_X12_goes_68 n I A J t ((8 : Int32) + x1) x2)
set_option maxRecDepth 100000 in
set_option maxHeartbeats 4000000 in
theorem cv_X12_toldBy_68 (g : cw_G) (n : Nat) (I : Nat → Nat → Int32) (A : Nat → Nat → Int32) (J : Nat → Nat → Int64) (t : Bool × Bool) (x1 : Int32) (x2 : Int32) (x3 : Int32) (x4 : Int32) (x5 : Int32) (hb : pb_X12_toldBy_68 n I A J t x1 x2 x3 x4 x5) : Cd g mX12_toldBy [(.ref (cw_z g + 68)), (.int x1), (.int x2), (.int x3), (.int x4), (.int x5)] (hp g I A J t) (some (.int (px_X12_toldBy_68 n I A J t x1 x2 x3 x4 x5))) (hp g (pI_X12_toldBy_68 n I A J t x1 x2 x3 x4 x5) A J t) := by
  unfold pb_X12_toldBy_68 at hb
  unfold px_X12_toldBy_68 pI_X12_toldBy_68
  refine Cd.of rfl (Nat.le_of_ble_eq_true rfl) (ev_gen (fun Q hQ => ?_))
  refine ev_aload_n (pc := 0) dX12_toldBy_0 rfl ?_
  refine ev_bipush (pc := 1) (v := 8) dX12_toldBy_1 (by decide) ?_
  refine ev_iload_n (pc := 3) dX12_toldBy_3 rfl ?_
  refine ev_iadd (pc := 4) dX12_toldBy_4 ?_
  refine ev_iload_n (pc := 5) dX12_toldBy_5 rfl ?_
  refine ev_Vv (pc := 6) dX12_toldBy_6 lk_X12_322 cd_X12_goes ar_X12_goes ⟨by decide, rfl, rfl⟩ (cv_X12_goes_68 g n I A J t ((8 : Int32) + x1) x2 hb.1) (show 68 < 120 by decide) rfl rfl rfl rfl (Nat.le_of_ble_eq_true rfl) ⟨by decide, by decide⟩ ?_
  replace hb := hb.2
  refine ev_iload (pc := 9) dX12_toldBy_9 rfl ?_
  refine ev_bipush (pc := 11) (v := 90) dX12_toldBy_11 (by decide) ?_
  refine ev_idiv (pc := 13) dX12_toldBy_13 (by decide) ?_
  refine ev_iconst (pc := 14) (v := 4) dX12_toldBy_14 (by decide) ?_
  refine ev_rem (pc := 15) dX12_toldBy_15 (by decide) ?_
  refine ev_is (y := (q16_X12_toldBy_68 n I A J t x1 x2 x3 x4 x5)) rfl ?_
  refine ev_istore_6 (pc := 16) dX12_toldBy_16 (by decide) rfl ?_
  refine ev_aload_n (pc := 18) dX12_toldBy_18 rfl ?_
  refine ev_bipush (pc := 19) (v := 8) dX12_toldBy_19 (by decide) ?_
  refine ev_iload_n (pc := 21) dX12_toldBy_21 rfl ?_
  refine ev_iadd (pc := 22) dX12_toldBy_22 ?_
  refine ev_iload (pc := 23) dX12_toldBy_23 rfl ?_
  refine ev_iload (pc := 25) dX12_toldBy_25 rfl ?_
  refine ev_Vi (pc := 27) dX12_toldBy_27 lk_X12_329 cd_X12_sunAt ar_X12_sunAt ⟨by decide, rfl, rfl⟩ (cv_X12_sunAt_68 g n (pI_X12_goes_68 n I A J t ((8 : Int32) + x1) x2) A J t ((8 : Int32) + x1) x4 x5 hb.1) (show 68 < 120 by decide) rfl rfl rfl rfl (Nat.le_of_ble_eq_true rfl) ⟨by decide, by decide⟩ ?_
  replace hb := hb.2
  refine ev_iconst (pc := 30) (v := 3) dX12_toldBy_30 (by decide) ?_
  refine ev_imul (pc := 31) dX12_toldBy_31 ?_
  refine ev_aload_n (pc := 32) dX12_toldBy_32 rfl ?_
  refine ev_iload_n (pc := 33) dX12_toldBy_33 rfl ?_
  refine ev_iload (pc := 34) dX12_toldBy_34 rfl ?_
  refine ev_iload (pc := 36) dX12_toldBy_36 rfl ?_
  refine ev_Vi (pc := 38) dX12_toldBy_38 lk_X12_329 cd_X12_sunAt ar_X12_sunAt ⟨by decide, rfl, rfl⟩ (cv_X12_sunAt_68 g n (pI_X12_goes_68 n I A J t ((8 : Int32) + x1) x2) A J t x2 x4 x5 hb.1) (show 68 < 120 by decide) rfl rfl rfl rfl (Nat.le_of_ble_eq_true rfl) ⟨by decide, by decide⟩ ?_
  replace hb := hb.2
  refine ev_iadd (pc := 41) dX12_toldBy_41 ?_
  refine ev_iconst (pc := 42) (v := 5) dX12_toldBy_42 (by decide) ?_
  refine ev_imul (pc := 43) dX12_toldBy_43 ?_
  refine ev_aload_n (pc := 44) dX12_toldBy_44 rfl ?_
  refine ev_Vi (pc := 45) dX12_toldBy_45 lk_X12_325 cd_X12_far ar_X12_far ⟨by decide, rfl, rfl⟩ (cv_X12_far_68 g n (pI_X12_goes_68 n I A J t ((8 : Int32) + x1) x2) A J t ) (show 68 < 120 by decide) rfl rfl rfl rfl (Nat.le_of_ble_eq_true rfl) ⟨by decide, by decide⟩ ?_
  refine ev_iadd (pc := 48) dX12_toldBy_48 ?_
  refine ev_bipush (pc := 49) (v := 6) dX12_toldBy_49 (by decide) ?_
  refine ev_imul (pc := 51) dX12_toldBy_51 ?_
  refine ev_iload_n (pc := 52) dX12_toldBy_52 rfl ?_
  refine ev_iadd (pc := 53) dX12_toldBy_53 ?_
  refine ev_is (y := (q54_X12_toldBy_68 n I A J t x1 x2 x3 x4 x5)) rfl ?_
  refine ev_istore_7 (pc := 54) dX12_toldBy_54 (by decide) rfl ?_
  refine ev_iload (pc := 56) dX12_toldBy_56 rfl ?_
  refine ev_aload_n (pc := 58) dX12_toldBy_58 rfl ?_
  refine tv_getr (pc := 59) (d := 97) dX12_toldBy_59 fl_X12_104 (by decide) rfl rfl ?_
  refine ev_iload (pc := 62) dX12_toldBy_62 rfl ?_
  refine ev_iald (pc := 64) dX12_toldBy_64 (by decide) rfl hb.1 ?_
  replace hb := hb.2
  have hF_65 := hb
  refine ev_cut (pj := 88) (Lj := [some (.ref (cw_z g + 68)), some (.int x1), some (.int x2), some (.int x3), some (.int x4), some (.int x5), some (.int (q16_X12_toldBy_68 n I A J t x1 x2 x3 x4 x5)), some (.int (q54_X12_toldBy_68 n I A J t x1 x2 x3 x4 x5))]) (stj := [(.int (qs0m65_X12_toldBy_68 n I A J t x1 x2 x3 x4 x5))]) (σj := hp g (pI_X12_goes_68 n I A J t ((8 : Int32) + x1) x2) A J t) ?_ (fun hJ_65 => ?_)
  rotate_left
  · refine ev_icmp_ge (pc := 65) (tgt := 85) dX12_toldBy_65 (by decide) (fun c_65 => ?_) (fun c_65 => ?_)
    · refine ev_ldcw (pc := 85) dX12_toldBy_85 ks_X12_332 ?_
      simp only [qs0m65_X12_toldBy_68, if_pos c_65] at hJ_65
      exact ev_loc hJ_65 cw_le0
    · have hb := hF_65 c_65
      refine ev_aload_n (pc := 68) dX12_toldBy_68 rfl ?_
      refine tv_getr (pc := 69) (d := 98) dX12_toldBy_69 fl_X12_107 (by decide) rfl rfl ?_
      refine ev_sipush (pc := 72) (v := 270) dX12_toldBy_72 (by decide) ?_
      refine ev_iload (pc := 75) dX12_toldBy_75 rfl ?_
      refine ev_imul (pc := 77) dX12_toldBy_77 ?_
      refine ev_iload (pc := 78) dX12_toldBy_78 rfl ?_
      refine ev_iadd (pc := 80) dX12_toldBy_80 ?_
      refine ev_iald (pc := 81) dX12_toldBy_81 (by decide) rfl hb ?_
      refine ev_goto (pc := 82) (tgt := 88) dX12_toldBy_82 (by decide) ?_
      simp only [qs0m65_X12_toldBy_68, if_neg c_65] at hJ_65
      exact ev_loc hJ_65 cw_le0
  exact ev_iret (pc := 88) dX12_toldBy_88 rfl (by decide) (by decide) (hQ _ _ ⟨rfl, rfl⟩)

def q83_X12_corrected_68 (n : Nat) (I : Nat → Nat → Int32) (A : Nat → Nat → Int32) (J : Nat → Nat → Int64) (t : Bool × Bool) (x1 : Int32) (x2 : Int32) (x3 : Int32) (x4 : Int32) (I9 : Nat → Nat → Int32) (v9_5 : Int32) (v9_6 : Int32) (v9_7 : Int32) : Int32 := (px_X12_toldBy_68 n I9 A J t x1 x2 x3 (A 100 (v9_7).toNatClampNeg) (A 104 (v9_7).toNatClampNeg))
def q109_X12_corrected_68 (n : Nat) (I : Nat → Nat → Int32) (A : Nat → Nat → Int32) (J : Nat → Nat → Int64) (t : Bool × Bool) (x1 : Int32) (x2 : Int32) (x3 : Int32) (x4 : Int32) (I9 : Nat → Nat → Int32) (v9_5 : Int32) (v9_6 : Int32) (v9_7 : Int32) : Int32 := (v9_5 + ((A 106 (v9_7).toNatClampNeg) - (q83_X12_corrected_68 n I A J t x1 x2 x3 x4 I9 v9_5 v9_6 v9_7)))
def q111_X12_corrected_68 (n : Nat) (I : Nat → Nat → Int32) (A : Nat → Nat → Int32) (J : Nat → Nat → Int64) (t : Bool × Bool) (x1 : Int32) (x2 : Int32) (x3 : Int32) (x4 : Int32) (I9 : Nat → Nat → Int32) (v9_5 : Int32) (v9_6 : Int32) (v9_7 : Int32) : Int32 := v9_6 + 1
def ql5m90_X12_corrected_68 (n : Nat) (I : Nat → Nat → Int32) (A : Nat → Nat → Int32) (J : Nat → Nat → Int64) (t : Bool × Bool) (x1 : Int32) (x2 : Int32) (x3 : Int32) (x4 : Int32) (I9 : Nat → Nat → Int32) (v9_5 : Int32) (v9_6 : Int32) (v9_7 : Int32) : Int32 := if (q83_X12_corrected_68 n I A J t x1 x2 x3 x4 I9 v9_5 v9_6 v9_7) = (-1000000) then v9_5 else (q109_X12_corrected_68 n I A J t x1 x2 x3 x4 I9 v9_5 v9_6 v9_7)
def ql6m90_X12_corrected_68 (n : Nat) (I : Nat → Nat → Int32) (A : Nat → Nat → Int32) (J : Nat → Nat → Int64) (t : Bool × Bool) (x1 : Int32) (x2 : Int32) (x3 : Int32) (x4 : Int32) (I9 : Nat → Nat → Int32) (v9_5 : Int32) (v9_6 : Int32) (v9_7 : Int32) : Int32 := if (q83_X12_corrected_68 n I A J t x1 x2 x3 x4 I9 v9_5 v9_6 v9_7) = (-1000000) then v9_6 else (q111_X12_corrected_68 n I A J t x1 x2 x3 x4 I9 v9_5 v9_6 v9_7)
def qIm56_X12_corrected_68 (n : Nat) (I : Nat → Nat → Int32) (A : Nat → Nat → Int32) (J : Nat → Nat → Int64) (t : Bool × Bool) (x1 : Int32) (x2 : Int32) (x3 : Int32) (x4 : Int32) (I9 : Nat → Nat → Int32) (v9_5 : Int32) (v9_6 : Int32) (v9_7 : Int32) : Nat → Nat → Int32 := if (A 103 (v9_7).toNatClampNeg) = x3 then (pI_X12_toldBy_68 n I9 A J t x1 x2 x3 (A 100 (v9_7).toNatClampNeg) (A 104 (v9_7).toNatClampNeg)) else I9
def ql5m56_X12_corrected_68 (n : Nat) (I : Nat → Nat → Int32) (A : Nat → Nat → Int32) (J : Nat → Nat → Int64) (t : Bool × Bool) (x1 : Int32) (x2 : Int32) (x3 : Int32) (x4 : Int32) (I9 : Nat → Nat → Int32) (v9_5 : Int32) (v9_6 : Int32) (v9_7 : Int32) : Int32 := if (A 103 (v9_7).toNatClampNeg) = x3 then (ql5m90_X12_corrected_68 n I A J t x1 x2 x3 x4 I9 v9_5 v9_6 v9_7) else v9_5
def ql6m56_X12_corrected_68 (n : Nat) (I : Nat → Nat → Int32) (A : Nat → Nat → Int32) (J : Nat → Nat → Int64) (t : Bool × Bool) (x1 : Int32) (x2 : Int32) (x3 : Int32) (x4 : Int32) (I9 : Nat → Nat → Int32) (v9_5 : Int32) (v9_6 : Int32) (v9_7 : Int32) : Int32 := if (A 103 (v9_7).toNatClampNeg) = x3 then (ql6m90_X12_corrected_68 n I A J t x1 x2 x3 x4 I9 v9_5 v9_6 v9_7) else v9_6
def qIm45_X12_corrected_68 (n : Nat) (I : Nat → Nat → Int32) (A : Nat → Nat → Int32) (J : Nat → Nat → Int64) (t : Bool × Bool) (x1 : Int32) (x2 : Int32) (x3 : Int32) (x4 : Int32) (I9 : Nat → Nat → Int32) (v9_5 : Int32) (v9_6 : Int32) (v9_7 : Int32) : Nat → Nat → Int32 := if (A 102 (v9_7).toNatClampNeg) = x2 then (qIm56_X12_corrected_68 n I A J t x1 x2 x3 x4 I9 v9_5 v9_6 v9_7) else I9
def ql5m45_X12_corrected_68 (n : Nat) (I : Nat → Nat → Int32) (A : Nat → Nat → Int32) (J : Nat → Nat → Int64) (t : Bool × Bool) (x1 : Int32) (x2 : Int32) (x3 : Int32) (x4 : Int32) (I9 : Nat → Nat → Int32) (v9_5 : Int32) (v9_6 : Int32) (v9_7 : Int32) : Int32 := if (A 102 (v9_7).toNatClampNeg) = x2 then (ql5m56_X12_corrected_68 n I A J t x1 x2 x3 x4 I9 v9_5 v9_6 v9_7) else v9_5
def ql6m45_X12_corrected_68 (n : Nat) (I : Nat → Nat → Int32) (A : Nat → Nat → Int32) (J : Nat → Nat → Int64) (t : Bool × Bool) (x1 : Int32) (x2 : Int32) (x3 : Int32) (x4 : Int32) (I9 : Nat → Nat → Int32) (v9_5 : Int32) (v9_6 : Int32) (v9_7 : Int32) : Int32 := if (A 102 (v9_7).toNatClampNeg) = x2 then (ql6m56_X12_corrected_68 n I A J t x1 x2 x3 x4 I9 v9_5 v9_6 v9_7) else v9_6
def qIm34_X12_corrected_68 (n : Nat) (I : Nat → Nat → Int32) (A : Nat → Nat → Int32) (J : Nat → Nat → Int64) (t : Bool × Bool) (x1 : Int32) (x2 : Int32) (x3 : Int32) (x4 : Int32) (I9 : Nat → Nat → Int32) (v9_5 : Int32) (v9_6 : Int32) (v9_7 : Int32) : Nat → Nat → Int32 := if (A 101 (v9_7).toNatClampNeg) = x1 then (qIm45_X12_corrected_68 n I A J t x1 x2 x3 x4 I9 v9_5 v9_6 v9_7) else I9
def ql5m34_X12_corrected_68 (n : Nat) (I : Nat → Nat → Int32) (A : Nat → Nat → Int32) (J : Nat → Nat → Int64) (t : Bool × Bool) (x1 : Int32) (x2 : Int32) (x3 : Int32) (x4 : Int32) (I9 : Nat → Nat → Int32) (v9_5 : Int32) (v9_6 : Int32) (v9_7 : Int32) : Int32 := if (A 101 (v9_7).toNatClampNeg) = x1 then (ql5m45_X12_corrected_68 n I A J t x1 x2 x3 x4 I9 v9_5 v9_6 v9_7) else v9_5
def ql6m34_X12_corrected_68 (n : Nat) (I : Nat → Nat → Int32) (A : Nat → Nat → Int32) (J : Nat → Nat → Int64) (t : Bool × Bool) (x1 : Int32) (x2 : Int32) (x3 : Int32) (x4 : Int32) (I9 : Nat → Nat → Int32) (v9_5 : Int32) (v9_6 : Int32) (v9_7 : Int32) : Int32 := if (A 101 (v9_7).toNatClampNeg) = x1 then (ql6m45_X12_corrected_68 n I A J t x1 x2 x3 x4 I9 v9_5 v9_6 v9_7) else v9_6
def qIm23_X12_corrected_68 (n : Nat) (I : Nat → Nat → Int32) (A : Nat → Nat → Int32) (J : Nat → Nat → Int64) (t : Bool × Bool) (x1 : Int32) (x2 : Int32) (x3 : Int32) (x4 : Int32) (I9 : Nat → Nat → Int32) (v9_5 : Int32) (v9_6 : Int32) (v9_7 : Int32) : Nat → Nat → Int32 := if (A 99 (v9_7).toNatClampNeg) = 0 then (qIm34_X12_corrected_68 n I A J t x1 x2 x3 x4 I9 v9_5 v9_6 v9_7) else I9
def ql5m23_X12_corrected_68 (n : Nat) (I : Nat → Nat → Int32) (A : Nat → Nat → Int32) (J : Nat → Nat → Int64) (t : Bool × Bool) (x1 : Int32) (x2 : Int32) (x3 : Int32) (x4 : Int32) (I9 : Nat → Nat → Int32) (v9_5 : Int32) (v9_6 : Int32) (v9_7 : Int32) : Int32 := if (A 99 (v9_7).toNatClampNeg) = 0 then (ql5m34_X12_corrected_68 n I A J t x1 x2 x3 x4 I9 v9_5 v9_6 v9_7) else v9_5
def ql6m23_X12_corrected_68 (n : Nat) (I : Nat → Nat → Int32) (A : Nat → Nat → Int32) (J : Nat → Nat → Int64) (t : Bool × Bool) (x1 : Int32) (x2 : Int32) (x3 : Int32) (x4 : Int32) (I9 : Nat → Nat → Int32) (v9_5 : Int32) (v9_6 : Int32) (v9_7 : Int32) : Int32 := if (A 99 (v9_7).toNatClampNeg) = 0 then (ql6m34_X12_corrected_68 n I A J t x1 x2 x3 x4 I9 v9_5 v9_6 v9_7) else v9_6
def q114_X12_corrected_68 (n : Nat) (I : Nat → Nat → Int32) (A : Nat → Nat → Int32) (J : Nat → Nat → Int64) (t : Bool × Bool) (x1 : Int32) (x2 : Int32) (x3 : Int32) (x4 : Int32) (I9 : Nat → Nat → Int32) (v9_5 : Int32) (v9_6 : Int32) (v9_7 : Int32) : Int32 := v9_7 + 1
def lp_X12_corrected_68_9 (n : Nat) (I : Nat → Nat → Int32) (A : Nat → Nat → Int32) (J : Nat → Nat → Int64) (t : Bool × Bool) (x1 : Int32) (x2 : Int32) (x3 : Int32) (x4 : Int32) : Nat → (Nat → Nat → Int32) → (Int32) → (Int32) → (Int32) → (Nat → Nat → Int32) × Int32 × Int32 × Int32
  | 0, I9, v9_5, v9_6, v9_7 => (I9, v9_5, v9_6, v9_7)
  | f + 1, I9, v9_5, v9_6, v9_7 => if x4 ≤ v9_7 then (I9, v9_5, v9_6, v9_7) else lp_X12_corrected_68_9 n I A J t x1 x2 x3 x4 f (qIm23_X12_corrected_68 n I A J t x1 x2 x3 x4 I9 v9_5 v9_6 v9_7) (ql5m23_X12_corrected_68 n I A J t x1 x2 x3 x4 I9 v9_5 v9_6 v9_7) (ql6m23_X12_corrected_68 n I A J t x1 x2 x3 x4 I9 v9_5 v9_6 v9_7) (q114_X12_corrected_68 n I A J t x1 x2 x3 x4 I9 v9_5 v9_6 v9_7)
def lb_X12_corrected_68_9 (n : Nat) (I : Nat → Nat → Int32) (A : Nat → Nat → Int32) (J : Nat → Nat → Int64) (t : Bool × Bool) (x1 : Int32) (x2 : Int32) (x3 : Int32) (x4 : Int32) : Nat → (Nat → Nat → Int32) → (Int32) → (Int32) → (Int32) → Prop
  | 0, _, _, _, _ => False
  | f + 1, I9, v9_5, v9_6, v9_7 => (¬ x4 ≤ v9_7 → vp_in v9_7 300 ∧ ((A 99 (v9_7).toNatClampNeg) = 0 → vp_in v9_7 300 ∧ ((A 101 (v9_7).toNatClampNeg) = x1 → vp_in v9_7 300 ∧ ((A 102 (v9_7).toNatClampNeg) = x2 → vp_in v9_7 300 ∧ ((A 103 (v9_7).toNatClampNeg) = x3 → vp_in v9_7 300 ∧ vp_in v9_7 300 ∧ pb_X12_toldBy_68 n I9 A J t x1 x2 x3 (A 100 (v9_7).toNatClampNeg) (A 104 (v9_7).toNatClampNeg) ∧ (¬ (q83_X12_corrected_68 n I A J t x1 x2 x3 x4 I9 v9_5 v9_6 v9_7) = (-1000000) → vp_in v9_7 300))))) ∧ lb_X12_corrected_68_9 n I A J t x1 x2 x3 x4 f (qIm23_X12_corrected_68 n I A J t x1 x2 x3 x4 I9 v9_5 v9_6 v9_7) (ql5m23_X12_corrected_68 n I A J t x1 x2 x3 x4 I9 v9_5 v9_6 v9_7) (ql6m23_X12_corrected_68 n I A J t x1 x2 x3 x4 I9 v9_5 v9_6 v9_7) (q114_X12_corrected_68 n I A J t x1 x2 x3 x4 I9 v9_5 v9_6 v9_7))
def qIw9_X12_corrected_68 (n : Nat) (I : Nat → Nat → Int32) (A : Nat → Nat → Int32) (J : Nat → Nat → Int64) (t : Bool × Bool) (x1 : Int32) (x2 : Int32) (x3 : Int32) (x4 : Int32) : Nat → Nat → Int32 := (lp_X12_corrected_68_9 n I A J t x1 x2 x3 x4 n I 0 0 0).1
def q5w9_X12_corrected_68 (n : Nat) (I : Nat → Nat → Int32) (A : Nat → Nat → Int32) (J : Nat → Nat → Int64) (t : Bool × Bool) (x1 : Int32) (x2 : Int32) (x3 : Int32) (x4 : Int32) : Int32 := (lp_X12_corrected_68_9 n I A J t x1 x2 x3 x4 n I 0 0 0).2.1
def q6w9_X12_corrected_68 (n : Nat) (I : Nat → Nat → Int32) (A : Nat → Nat → Int32) (J : Nat → Nat → Int64) (t : Bool × Bool) (x1 : Int32) (x2 : Int32) (x3 : Int32) (x4 : Int32) : Int32 := (lp_X12_corrected_68_9 n I A J t x1 x2 x3 x4 n I 0 0 0).2.2.1
def q7w9_X12_corrected_68 (n : Nat) (I : Nat → Nat → Int32) (A : Nat → Nat → Int32) (J : Nat → Nat → Int64) (t : Bool × Bool) (x1 : Int32) (x2 : Int32) (x3 : Int32) (x4 : Int32) : Int32 := (lp_X12_corrected_68_9 n I A J t x1 x2 x3 x4 n I 0 0 0).2.2.2
def q132_X12_corrected_68 (n : Nat) (I : Nat → Nat → Int32) (A : Nat → Nat → Int32) (J : Nat → Nat → Int64) (t : Bool × Bool) (x1 : Int32) (x2 : Int32) (x3 : Int32) (x4 : Int32) : Int32 := ((q5w9_X12_corrected_68 n I A J t x1 x2 x3 x4) / (q6w9_X12_corrected_68 n I A J t x1 x2 x3 x4))
def qs0m139_X12_corrected_68 (n : Nat) (I : Nat → Nat → Int32) (A : Nat → Nat → Int32) (J : Nat → Nat → Int64) (t : Bool × Bool) (x1 : Int32) (x2 : Int32) (x3 : Int32) (x4 : Int32) : Int32 := if 0 ≤ (cw_rem (q5w9_X12_corrected_68 n I A J t x1 x2 x3 x4) (q6w9_X12_corrected_68 n I A J t x1 x2 x3 x4)) then (q132_X12_corrected_68 n I A J t x1 x2 x3 x4) else ((q132_X12_corrected_68 n I A J t x1 x2 x3 x4) - 1)
def pb_X12_corrected_68 (n : Nat) (I : Nat → Nat → Int32) (A : Nat → Nat → Int32) (J : Nat → Nat → Int64) (t : Bool × Bool) (x1 : Int32) (x2 : Int32) (x3 : Int32) (x4 : Int32) : Prop := lb_X12_corrected_68_9 n I A J t x1 x2 x3 x4 n I 0 0 0 ∧ (¬ (q6w9_X12_corrected_68 n I A J t x1 x2 x3 x4) = 0 → ¬ (q6w9_X12_corrected_68 n I A J t x1 x2 x3 x4) = 0 ∧ ¬ (q6w9_X12_corrected_68 n I A J t x1 x2 x3 x4) = 0)
def px_X12_corrected_68 (n : Nat) (I : Nat → Nat → Int32) (A : Nat → Nat → Int32) (J : Nat → Nat → Int64) (t : Bool × Bool) (x1 : Int32) (x2 : Int32) (x3 : Int32) (x4 : Int32) : Int32 := (if (q6w9_X12_corrected_68 n I A J t x1 x2 x3 x4) = 0 then 0 else (qs0m139_X12_corrected_68 n I A J t x1 x2 x3 x4))
def pI_X12_corrected_68 (n : Nat) (I : Nat → Nat → Int32) (A : Nat → Nat → Int32) (J : Nat → Nat → Int64) (t : Bool × Bool) (x1 : Int32) (x2 : Int32) (x3 : Int32) (x4 : Int32) : Nat → Nat → Int32 := (qIw9_X12_corrected_68 n I A J t x1 x2 x3 x4)
set_option maxRecDepth 100000 in
set_option maxHeartbeats 4000000 in
theorem lt_X12_corrected_68_9 (g : cw_G) (n : Nat) (I : Nat → Nat → Int32) (A : Nat → Nat → Int32) (J : Nat → Nat → Int64) (t : Bool × Bool) (x1 : Int32) (x2 : Int32) (x3 : Int32) (x4 : Int32) {Q : Option Value → cw_H → Prop} : ∀ (f : Nat) (I9 : Nat → Nat → Int32) (v9_5 : Int32) (v9_6 : Int32) (v9_7 : Int32) (w0 : Nat → Nat → Int32) (w1 : Int32) (w2 : Int32) (w3 : Int32), lb_X12_corrected_68_9 n I A J t x1 x2 x3 x4 f I9 v9_5 v9_6 v9_7 → (lp_X12_corrected_68_9 n I A J t x1 x2 x3 x4 f I9 v9_5 v9_6 v9_7).1 = w0 → (lp_X12_corrected_68_9 n I A J t x1 x2 x3 x4 f I9 v9_5 v9_6 v9_7).2.1 = w1 → (lp_X12_corrected_68_9 n I A J t x1 x2 x3 x4 f I9 v9_5 v9_6 v9_7).2.2.1 = w2 → (lp_X12_corrected_68_9 n I A J t x1 x2 x3 x4 f I9 v9_5 v9_6 v9_7).2.2.2 = w3 → Ev g mX12_corrected 0 0 120 [some (.ref (cw_z g + 68)), some (.int x1), some (.int x2), some (.int x3), some (.int x4), some (.int w1), some (.int w2), some (.int w3), none] [] (hp g w0 A J t) Q → Ev g mX12_corrected 0 0 9 [some (.ref (cw_z g + 68)), some (.int x1), some (.int x2), some (.int x3), some (.int x4), some (.int v9_5), some (.int v9_6), some (.int v9_7), none] [] (hp g I9 A J t) Q := by
  intro f
  induction f with
  | zero =>
    intro I9 v9_5 v9_6 v9_7 w0 w1 w2 w3 hb
    exact hb.elim
  | succ f ih =>
    intro I9 v9_5 v9_6 v9_7 w0 w1 w2 w3 hb h0 h1 h2 h3 hE
    rw [lb_X12_corrected_68_9] at hb
    rw [lp_X12_corrected_68_9] at h0 h1 h2 h3
    refine ev_iload (pc := 9) dX12_corrected_9 rfl ?_
    refine ev_iload (pc := 11) dX12_corrected_11 rfl ?_
    have hF_13 := hb
    refine ev_icmp_ge (pc := 13) (tgt := 120) dX12_corrected_13 (by decide) (fun c_13 => ?_) (fun c_13 => ?_)
    · try simp only [if_pos c_13] at h0
      try simp only [if_pos c_13] at h1
      try simp only [if_pos c_13] at h2
      try simp only [if_pos c_13] at h3
      subst h0
      subst h1
      subst h2
      subst h3
      exact ev_loc hE cw_le0
    · have hb := hF_13 c_13
      try simp only [if_neg c_13] at h0
      try simp only [if_neg c_13] at h1
      try simp only [if_neg c_13] at h2
      try simp only [if_neg c_13] at h3
      refine ev_aload_n (pc := 16) dX12_corrected_16 rfl ?_
      refine tv_getr (pc := 17) (d := 99) dX12_corrected_17 fl_X12_110 (by decide) rfl rfl ?_
      refine ev_iload (pc := 20) dX12_corrected_20 rfl ?_
      refine ev_zald (pc := 22) dX12_corrected_22 (by decide) rfl hb.1 ?_
      replace hb := hb.2
      obtain ⟨hF_23, hb⟩ := hb
      refine ev_cut (pj := 114) (Lj := [some (.ref (cw_z g + 68)), some (.int x1), some (.int x2), some (.int x3), some (.int x4), some (.int (ql5m23_X12_corrected_68 n I A J t x1 x2 x3 x4 I9 v9_5 v9_6 v9_7)), some (.int (ql6m23_X12_corrected_68 n I A J t x1 x2 x3 x4 I9 v9_5 v9_6 v9_7)), some (.int v9_7), none]) (stj := []) (σj := hp g (qIm23_X12_corrected_68 n I A J t x1 x2 x3 x4 I9 v9_5 v9_6 v9_7) A J t) ?_ (fun hJ_23 => ?_)
      rotate_left
      · refine ev_if_ne (pc := 23) (tgt := 114) dX12_corrected_23 (by decide) (fun c_23 => ?_) (fun c_23 => ?_)
        · simp only [qIm23_X12_corrected_68, ql5m23_X12_corrected_68, ql6m23_X12_corrected_68, if_neg c_23] at hJ_23
          exact ev_loc hJ_23 cw_le0
        · have hb := hF_23 c_23
          refine ev_aload_n (pc := 26) dX12_corrected_26 rfl ?_
          refine tv_getr (pc := 27) (d := 101) dX12_corrected_27 fl_X12_116 (by decide) rfl rfl ?_
          refine ev_iload (pc := 30) dX12_corrected_30 rfl ?_
          refine ev_iald (pc := 32) dX12_corrected_32 (by decide) rfl hb.1 ?_
          replace hb := hb.2
          refine ev_iload_n (pc := 33) dX12_corrected_33 rfl ?_
          have hF_34 := hb
          refine ev_cut (pj := 114) (Lj := [some (.ref (cw_z g + 68)), some (.int x1), some (.int x2), some (.int x3), some (.int x4), some (.int (ql5m34_X12_corrected_68 n I A J t x1 x2 x3 x4 I9 v9_5 v9_6 v9_7)), some (.int (ql6m34_X12_corrected_68 n I A J t x1 x2 x3 x4 I9 v9_5 v9_6 v9_7)), some (.int v9_7), none]) (stj := []) (σj := hp g (qIm34_X12_corrected_68 n I A J t x1 x2 x3 x4 I9 v9_5 v9_6 v9_7) A J t) ?_ (fun hJ_34 => ?_)
          rotate_left
          · refine ev_icmp_ne (pc := 34) (tgt := 114) dX12_corrected_34 (by decide) (fun c_34 => ?_) (fun c_34 => ?_)
            · simp only [qIm34_X12_corrected_68, ql5m34_X12_corrected_68, ql6m34_X12_corrected_68, if_neg c_34] at hJ_34
              exact ev_loc hJ_34 cw_le0
            · have hb := hF_34 c_34
              refine ev_aload_n (pc := 37) dX12_corrected_37 rfl ?_
              refine tv_getr (pc := 38) (d := 102) dX12_corrected_38 fl_X12_119 (by decide) rfl rfl ?_
              refine ev_iload (pc := 41) dX12_corrected_41 rfl ?_
              refine ev_iald (pc := 43) dX12_corrected_43 (by decide) rfl hb.1 ?_
              replace hb := hb.2
              refine ev_iload_n (pc := 44) dX12_corrected_44 rfl ?_
              have hF_45 := hb
              refine ev_cut (pj := 114) (Lj := [some (.ref (cw_z g + 68)), some (.int x1), some (.int x2), some (.int x3), some (.int x4), some (.int (ql5m45_X12_corrected_68 n I A J t x1 x2 x3 x4 I9 v9_5 v9_6 v9_7)), some (.int (ql6m45_X12_corrected_68 n I A J t x1 x2 x3 x4 I9 v9_5 v9_6 v9_7)), some (.int v9_7), none]) (stj := []) (σj := hp g (qIm45_X12_corrected_68 n I A J t x1 x2 x3 x4 I9 v9_5 v9_6 v9_7) A J t) ?_ (fun hJ_45 => ?_)
              rotate_left
              · refine ev_icmp_ne (pc := 45) (tgt := 114) dX12_corrected_45 (by decide) (fun c_45 => ?_) (fun c_45 => ?_)
                · simp only [qIm45_X12_corrected_68, ql5m45_X12_corrected_68, ql6m45_X12_corrected_68, if_neg c_45] at hJ_45
                  exact ev_loc hJ_45 cw_le0
                · have hb := hF_45 c_45
                  refine ev_aload_n (pc := 48) dX12_corrected_48 rfl ?_
                  refine tv_getr (pc := 49) (d := 103) dX12_corrected_49 fl_X12_122 (by decide) rfl rfl ?_
                  refine ev_iload (pc := 52) dX12_corrected_52 rfl ?_
                  refine ev_iald (pc := 54) dX12_corrected_54 (by decide) rfl hb.1 ?_
                  replace hb := hb.2
                  refine ev_iload_n (pc := 55) dX12_corrected_55 rfl ?_
                  have hT_56 := hb
                  refine ev_cut (pj := 114) (Lj := [some (.ref (cw_z g + 68)), some (.int x1), some (.int x2), some (.int x3), some (.int x4), some (.int (ql5m56_X12_corrected_68 n I A J t x1 x2 x3 x4 I9 v9_5 v9_6 v9_7)), some (.int (ql6m56_X12_corrected_68 n I A J t x1 x2 x3 x4 I9 v9_5 v9_6 v9_7)), some (.int v9_7), none]) (stj := []) (σj := hp g (qIm56_X12_corrected_68 n I A J t x1 x2 x3 x4 I9 v9_5 v9_6 v9_7) A J t) ?_ (fun hJ_56 => ?_)
                  rotate_left
                  · refine ev_icmp_eq (pc := 56) (tgt := 62) dX12_corrected_56 (by decide) (fun c_56 => ?_) (fun c_56 => ?_)
                    · have hb := hT_56 c_56
                      refine ev_aload_n (pc := 62) dX12_corrected_62 rfl ?_
                      refine ev_iload_n (pc := 63) dX12_corrected_63 rfl ?_
                      refine ev_iload_n (pc := 64) dX12_corrected_64 rfl ?_
                      refine ev_iload_n (pc := 65) dX12_corrected_65 rfl ?_
                      refine ev_aload_n (pc := 66) dX12_corrected_66 rfl ?_
                      refine tv_getr (pc := 67) (d := 100) dX12_corrected_67 fl_X12_113 (by decide) rfl rfl ?_
                      refine ev_iload (pc := 70) dX12_corrected_70 rfl ?_
                      refine ev_iald (pc := 72) dX12_corrected_72 (by decide) rfl hb.1 ?_
                      replace hb := hb.2
                      refine ev_aload_n (pc := 73) dX12_corrected_73 rfl ?_
                      refine tv_getr (pc := 74) (d := 104) dX12_corrected_74 fl_X12_125 (by decide) rfl rfl ?_
                      refine ev_iload (pc := 77) dX12_corrected_77 rfl ?_
                      refine ev_iald (pc := 79) dX12_corrected_79 (by decide) rfl hb.1 ?_
                      replace hb := hb.2
                      refine ev_Vi (pc := 80) dX12_corrected_80 lk_X12_333 cd_X12_toldBy ar_X12_toldBy ⟨by decide, rfl, rfl⟩ (cv_X12_toldBy_68 g n I9 A J t x1 x2 x3 (A 100 (v9_7).toNatClampNeg) (A 104 (v9_7).toNatClampNeg) hb.1) (show 68 < 120 by decide) rfl rfl rfl rfl (Nat.le_of_ble_eq_true rfl) ⟨by decide, by decide⟩ ?_
                      replace hb := hb.2
                      refine ev_is (y := (q83_X12_corrected_68 n I A J t x1 x2 x3 x4 I9 v9_5 v9_6 v9_7)) rfl ?_
                      refine ev_istore_8 (pc := 83) dX12_corrected_83 (by decide) rfl ?_
                      refine ev_iload (pc := 85) dX12_corrected_85 rfl ?_
                      refine ev_ldcw (pc := 87) dX12_corrected_87 ks_X12_332 ?_
                      have hT_90 := hb
                      refine ev_cut (pj := 114) (Lj := [some (.ref (cw_z g + 68)), some (.int x1), some (.int x2), some (.int x3), some (.int x4), some (.int (ql5m90_X12_corrected_68 n I A J t x1 x2 x3 x4 I9 v9_5 v9_6 v9_7)), some (.int (ql6m90_X12_corrected_68 n I A J t x1 x2 x3 x4 I9 v9_5 v9_6 v9_7)), some (.int v9_7), some (.int (q83_X12_corrected_68 n I A J t x1 x2 x3 x4 I9 v9_5 v9_6 v9_7))]) (stj := []) (σj := hp g (pI_X12_toldBy_68 n I9 A J t x1 x2 x3 (A 100 (v9_7).toNatClampNeg) (A 104 (v9_7).toNatClampNeg)) A J t) ?_ (fun hJ_90 => ?_)
                      rotate_left
                      · refine ev_icmp_ne (pc := 90) (tgt := 96) dX12_corrected_90 (by decide) (fun c_90 => ?_) (fun c_90 => ?_)
                        · have hb := hT_90 c_90
                          refine ev_iload (pc := 96) dX12_corrected_96 rfl ?_
                          refine ev_aload_n (pc := 98) dX12_corrected_98 rfl ?_
                          refine tv_getr (pc := 99) (d := 106) dX12_corrected_99 fl_X12_131 (by decide) rfl rfl ?_
                          refine ev_iload (pc := 102) dX12_corrected_102 rfl ?_
                          refine ev_iald (pc := 104) dX12_corrected_104 (by decide) rfl hb ?_
                          refine ev_iload (pc := 105) dX12_corrected_105 rfl ?_
                          refine ev_isub (pc := 107) dX12_corrected_107 ?_
                          refine ev_iadd (pc := 108) dX12_corrected_108 ?_
                          refine ev_is (y := (q109_X12_corrected_68 n I A J t x1 x2 x3 x4 I9 v9_5 v9_6 v9_7)) rfl ?_
                          refine ev_istore_5 (pc := 109) dX12_corrected_109 (by decide) rfl ?_
                          refine ev_iinc_6 (pc := 111) (v := (q111_X12_corrected_68 n I A J t x1 x2 x3 x4 I9 v9_5 v9_6 v9_7)) dX12_corrected_111 (by decide) rfl rfl ?_
                          simp only [ql5m90_X12_corrected_68, ql6m90_X12_corrected_68, if_neg c_90] at hJ_90
                          exact ev_loc hJ_90 cw_le0
                        · refine ev_goto (pc := 93) (tgt := 114) dX12_corrected_93 (by decide) ?_
                          simp only [ql5m90_X12_corrected_68, ql6m90_X12_corrected_68, if_pos c_90] at hJ_90
                          exact ev_loc hJ_90 cw_le0
                      simp only [qIm56_X12_corrected_68, ql5m56_X12_corrected_68, ql6m56_X12_corrected_68, if_pos c_56] at hJ_56
                      exact ev_loc hJ_56 (cw_leS (cw_leS (cw_leS (cw_leS (cw_leS (cw_leS (cw_leS (cw_leS (cw_leN cw_le0)))))))))
                    · refine ev_goto (pc := 59) (tgt := 114) dX12_corrected_59 (by decide) ?_
                      simp only [qIm56_X12_corrected_68, ql5m56_X12_corrected_68, ql6m56_X12_corrected_68, if_neg c_56] at hJ_56
                      exact ev_loc hJ_56 cw_le0
                  simp only [qIm45_X12_corrected_68, ql5m45_X12_corrected_68, ql6m45_X12_corrected_68, if_pos c_45] at hJ_45
                  exact ev_loc hJ_45 cw_le0
              simp only [qIm34_X12_corrected_68, ql5m34_X12_corrected_68, ql6m34_X12_corrected_68, if_pos c_34] at hJ_34
              exact ev_loc hJ_34 cw_le0
          simp only [qIm23_X12_corrected_68, ql5m23_X12_corrected_68, ql6m23_X12_corrected_68, if_pos c_23] at hJ_23
          exact ev_loc hJ_23 cw_le0
      refine ev_iinc_7 (pc := 114) (v := (q114_X12_corrected_68 n I A J t x1 x2 x3 x4 I9 v9_5 v9_6 v9_7)) dX12_corrected_114 (by decide) rfl rfl ?_
      refine ev_goto (pc := 117) (tgt := 9) dX12_corrected_117 (by decide) ?_
      exact ev_loc (ih (qIm23_X12_corrected_68 n I A J t x1 x2 x3 x4 I9 v9_5 v9_6 v9_7) (ql5m23_X12_corrected_68 n I A J t x1 x2 x3 x4 I9 v9_5 v9_6 v9_7) (ql6m23_X12_corrected_68 n I A J t x1 x2 x3 x4 I9 v9_5 v9_6 v9_7) (q114_X12_corrected_68 n I A J t x1 x2 x3 x4 I9 v9_5 v9_6 v9_7) w0 w1 w2 w3 hb h0 h1 h2 h3 hE) cw_le0

set_option maxRecDepth 100000 in
set_option maxHeartbeats 4000000 in
theorem cv_X12_corrected_68 (g : cw_G) (n : Nat) (I : Nat → Nat → Int32) (A : Nat → Nat → Int32) (J : Nat → Nat → Int64) (t : Bool × Bool) (x1 : Int32) (x2 : Int32) (x3 : Int32) (x4 : Int32) (hb : pb_X12_corrected_68 n I A J t x1 x2 x3 x4) : Cd g mX12_corrected [(.ref (cw_z g + 68)), (.int x1), (.int x2), (.int x3), (.int x4)] (hp g I A J t) (some (.int (px_X12_corrected_68 n I A J t x1 x2 x3 x4))) (hp g (pI_X12_corrected_68 n I A J t x1 x2 x3 x4) A J t) := by
  unfold pb_X12_corrected_68 at hb
  unfold px_X12_corrected_68 pI_X12_corrected_68
  refine Cd.of rfl (Nat.le_of_ble_eq_true rfl) (ev_gen (fun Q hQ => ?_))
  refine ev_iconst (pc := 0) (v := 0) dX12_corrected_0 (by decide) ?_
  refine ev_istore_5 (pc := 1) dX12_corrected_1 (by decide) rfl ?_
  refine ev_iconst (pc := 3) (v := 0) dX12_corrected_3 (by decide) ?_
  refine ev_istore_6 (pc := 4) dX12_corrected_4 (by decide) rfl ?_
  refine ev_iconst (pc := 6) (v := 0) dX12_corrected_6 (by decide) ?_
  refine ev_istore_7 (pc := 7) dX12_corrected_7 (by decide) rfl ?_
  refine lt_X12_corrected_68_9 g n I A J t x1 x2 x3 x4 n I 0 0 0 (qIw9_X12_corrected_68 n I A J t x1 x2 x3 x4) (q5w9_X12_corrected_68 n I A J t x1 x2 x3 x4) (q6w9_X12_corrected_68 n I A J t x1 x2 x3 x4) (q7w9_X12_corrected_68 n I A J t x1 x2 x3 x4) hb.1 rfl rfl rfl rfl ?_
  replace hb := hb.2
  refine ev_iload (pc := 120) dX12_corrected_120 rfl ?_
  have hT_122 := hb
  refine ev_if_ne (pc := 122) (tgt := 127) dX12_corrected_122 (by decide) (fun c_122 => ?_) (fun c_122 => ?_)
  · have hb := hT_122 c_122
    try simp only [if_neg c_122] at hQ
    refine ev_iload (pc := 127) dX12_corrected_127 rfl ?_
    refine ev_iload (pc := 129) dX12_corrected_129 rfl ?_
    refine ev_idiv (pc := 131) dX12_corrected_131 hb.1 ?_
    replace hb := hb.2
    refine ev_is (y := (q132_X12_corrected_68 n I A J t x1 x2 x3 x4)) rfl ?_
    refine ev_istore_7 (pc := 132) dX12_corrected_132 (by decide) rfl ?_
    refine ev_iload (pc := 134) dX12_corrected_134 rfl ?_
    refine ev_iload (pc := 136) dX12_corrected_136 rfl ?_
    refine ev_rem (pc := 138) dX12_corrected_138 hb ?_
    refine ev_cut (pj := 151) (Lj := [some (.ref (cw_z g + 68)), some (.int x1), some (.int x2), some (.int x3), some (.int x4), some (.int (q5w9_X12_corrected_68 n I A J t x1 x2 x3 x4)), some (.int (q6w9_X12_corrected_68 n I A J t x1 x2 x3 x4)), some (.int (q132_X12_corrected_68 n I A J t x1 x2 x3 x4)), none]) (stj := [(.int (qs0m139_X12_corrected_68 n I A J t x1 x2 x3 x4))]) (σj := hp g (qIw9_X12_corrected_68 n I A J t x1 x2 x3 x4) A J t) ?_ (fun hJ_139 => ?_)
    rotate_left
    · refine ev_if_ge (pc := 139) (tgt := 149) dX12_corrected_139 (by decide) (fun c_139 => ?_) (fun c_139 => ?_)
      · refine ev_iload (pc := 149) dX12_corrected_149 rfl ?_
        simp only [qs0m139_X12_corrected_68, if_pos c_139] at hJ_139
        exact ev_loc hJ_139 cw_le0
      · refine ev_iload (pc := 142) dX12_corrected_142 rfl ?_
        refine ev_iconst (pc := 144) (v := 1) dX12_corrected_144 (by decide) ?_
        refine ev_isub (pc := 145) dX12_corrected_145 ?_
        refine ev_goto (pc := 146) (tgt := 151) dX12_corrected_146 (by decide) ?_
        simp only [qs0m139_X12_corrected_68, if_neg c_139] at hJ_139
        exact ev_loc hJ_139 cw_le0
    exact ev_iret (pc := 151) dX12_corrected_151 rfl (by decide) (by decide) (hQ _ _ ⟨rfl, rfl⟩)
  · try simp only [if_pos c_122] at hQ
    refine ev_iconst (pc := 125) (v := 0) dX12_corrected_125 (by decide) ?_
    exact ev_iret (pc := 126) dX12_corrected_126 rfl (by decide) (by decide) (hQ _ _ ⟨rfl, rfl⟩)

def qIm29_X12_correction_68 (n : Nat) (I : Nat → Nat → Int32) (A : Nat → Nat → Int32) (J : Nat → Nat → Int64) (t : Bool × Bool) (x1 : Int32) (x2 : Int32) (x3 : Int32) (x4 : Int32) : Nat → Nat → Int32 := if (px_X12_isKnown_68 n I A J t x4) = 0 then I else (pI_X12_corrected_68 n I A J t x1 x2 x3 x4)
def qs0m29_X12_correction_68 (n : Nat) (I : Nat → Nat → Int32) (A : Nat → Nat → Int32) (J : Nat → Nat → Int64) (t : Bool × Bool) (x1 : Int32) (x2 : Int32) (x3 : Int32) (x4 : Int32) : Int32 := if (px_X12_isKnown_68 n I A J t x4) = 0 then (-1000000) else (px_X12_corrected_68 n I A J t x1 x2 x3 x4)
def qIm20_X12_correction_68 (n : Nat) (I : Nat → Nat → Int32) (A : Nat → Nat → Int32) (J : Nat → Nat → Int64) (t : Bool × Bool) (x1 : Int32) (x2 : Int32) (x3 : Int32) (x4 : Int32) : Nat → Nat → Int32 := if (px_X12_isBand n I A J t x3) = 0 then I else (qIm29_X12_correction_68 n I A J t x1 x2 x3 x4)
def qs0m20_X12_correction_68 (n : Nat) (I : Nat → Nat → Int32) (A : Nat → Nat → Int32) (J : Nat → Nat → Int64) (t : Bool × Bool) (x1 : Int32) (x2 : Int32) (x3 : Int32) (x4 : Int32) : Int32 := if (px_X12_isBand n I A J t x3) = 0 then (-1000000) else (qs0m29_X12_correction_68 n I A J t x1 x2 x3 x4)
def qIm13_X12_correction_68 (n : Nat) (I : Nat → Nat → Int32) (A : Nat → Nat → Int32) (J : Nat → Nat → Int64) (t : Bool × Bool) (x1 : Int32) (x2 : Int32) (x3 : Int32) (x4 : Int32) : Nat → Nat → Int32 := if (px_X12_isLand_68 n I A J t x2) = 0 then I else (qIm20_X12_correction_68 n I A J t x1 x2 x3 x4)
def qs0m13_X12_correction_68 (n : Nat) (I : Nat → Nat → Int32) (A : Nat → Nat → Int32) (J : Nat → Nat → Int64) (t : Bool × Bool) (x1 : Int32) (x2 : Int32) (x3 : Int32) (x4 : Int32) : Int32 := if (px_X12_isLand_68 n I A J t x2) = 0 then (-1000000) else (qs0m20_X12_correction_68 n I A J t x1 x2 x3 x4)
def qIm5_X12_correction_68 (n : Nat) (I : Nat → Nat → Int32) (A : Nat → Nat → Int32) (J : Nat → Nat → Int64) (t : Bool × Bool) (x1 : Int32) (x2 : Int32) (x3 : Int32) (x4 : Int32) : Nat → Nat → Int32 := if (px_X12_isSite_68 n I A J t x1) = 0 then I else (qIm13_X12_correction_68 n I A J t x1 x2 x3 x4)
def qs0m5_X12_correction_68 (n : Nat) (I : Nat → Nat → Int32) (A : Nat → Nat → Int32) (J : Nat → Nat → Int64) (t : Bool × Bool) (x1 : Int32) (x2 : Int32) (x3 : Int32) (x4 : Int32) : Int32 := if (px_X12_isSite_68 n I A J t x1) = 0 then (-1000000) else (qs0m13_X12_correction_68 n I A J t x1 x2 x3 x4)
def pb_X12_correction_68 (n : Nat) (I : Nat → Nat → Int32) (A : Nat → Nat → Int32) (J : Nat → Nat → Int64) (t : Bool × Bool) (x1 : Int32) (x2 : Int32) (x3 : Int32) (x4 : Int32) : Prop := (¬ (px_X12_isSite_68 n I A J t x1) = 0 → (¬ (px_X12_isLand_68 n I A J t x2) = 0 → (¬ (px_X12_isBand n I A J t x3) = 0 → (¬ (px_X12_isKnown_68 n I A J t x4) = 0 → pb_X12_corrected_68 n I A J t x1 x2 x3 x4))))
def px_X12_correction_68 (n : Nat) (I : Nat → Nat → Int32) (A : Nat → Nat → Int32) (J : Nat → Nat → Int64) (t : Bool × Bool) (x1 : Int32) (x2 : Int32) (x3 : Int32) (x4 : Int32) : Int32 := (qs0m5_X12_correction_68 n I A J t x1 x2 x3 x4)
def pI_X12_correction_68 (n : Nat) (I : Nat → Nat → Int32) (A : Nat → Nat → Int32) (J : Nat → Nat → Int64) (t : Bool × Bool) (x1 : Int32) (x2 : Int32) (x3 : Int32) (x4 : Int32) : Nat → Nat → Int32 := (qIm5_X12_correction_68 n I A J t x1 x2 x3 x4)
set_option maxRecDepth 100000 in
set_option maxHeartbeats 4000000 in
theorem cv_X12_correction_68 (g : cw_G) (n : Nat) (I : Nat → Nat → Int32) (A : Nat → Nat → Int32) (J : Nat → Nat → Int64) (t : Bool × Bool) (x1 : Int32) (x2 : Int32) (x3 : Int32) (x4 : Int32) (hb : pb_X12_correction_68 n I A J t x1 x2 x3 x4) : Cd g mX12_correction [(.ref (cw_z g + 68)), (.int x1), (.int x2), (.int x3), (.int x4)] (hp g I A J t) (some (.int (px_X12_correction_68 n I A J t x1 x2 x3 x4))) (hp g (pI_X12_correction_68 n I A J t x1 x2 x3 x4) A J t) := by
  unfold pb_X12_correction_68 at hb
  unfold px_X12_correction_68 pI_X12_correction_68
  refine Cd.of rfl (Nat.le_of_ble_eq_true rfl) (ev_gen (fun Q hQ => ?_))
  refine ev_aload_n (pc := 0) dX12_correction_0 rfl ?_
  refine ev_iload_n (pc := 1) dX12_correction_1 rfl ?_
  refine ev_Vi (pc := 2) dX12_correction_2 lk_X12_292 cd_X12_isSite ar_X12_isSite ⟨by decide, rfl, rfl⟩ (cv_X12_isSite_68 g n I A J t x1) (show 68 < 120 by decide) rfl rfl rfl rfl (Nat.le_of_ble_eq_true rfl) ⟨by decide, by decide⟩ ?_
  have hF_5 := hb
  refine ev_cut (pj := 47) (Lj := [some (.ref (cw_z g + 68)), some (.int x1), some (.int x2), some (.int x3), some (.int x4)]) (stj := [(.int (qs0m5_X12_correction_68 n I A J t x1 x2 x3 x4))]) (σj := hp g (qIm5_X12_correction_68 n I A J t x1 x2 x3 x4) A J t) ?_ (fun hJ_5 => ?_)
  rotate_left
  · refine ev_if_eq (pc := 5) (tgt := 44) dX12_correction_5 (by decide) (fun c_5 => ?_) (fun c_5 => ?_)
    · refine ev_ldcw (pc := 44) dX12_correction_44 ks_X12_332 ?_
      simp only [qIm5_X12_correction_68, qs0m5_X12_correction_68, if_pos c_5] at hJ_5
      exact ev_loc hJ_5 cw_le0
    · have hb := hF_5 c_5
      refine ev_aload_n (pc := 8) dX12_correction_8 rfl ?_
      refine ev_iload_n (pc := 9) dX12_correction_9 rfl ?_
      refine ev_Vi (pc := 10) dX12_correction_10 lk_X12_298 cd_X12_isLand ar_X12_isLand ⟨by decide, rfl, rfl⟩ (cv_X12_isLand_68 g n I A J t x2) (show 68 < 120 by decide) rfl rfl rfl rfl (Nat.le_of_ble_eq_true rfl) ⟨by decide, by decide⟩ ?_
      have hF_13 := hb
      refine ev_cut (pj := 47) (Lj := [some (.ref (cw_z g + 68)), some (.int x1), some (.int x2), some (.int x3), some (.int x4)]) (stj := [(.int (qs0m13_X12_correction_68 n I A J t x1 x2 x3 x4))]) (σj := hp g (qIm13_X12_correction_68 n I A J t x1 x2 x3 x4) A J t) ?_ (fun hJ_13 => ?_)
      rotate_left
      · refine ev_if_eq (pc := 13) (tgt := 44) dX12_correction_13 (by decide) (fun c_13 => ?_) (fun c_13 => ?_)
        · refine ev_ldcw (pc := 44) dX12_correction_44 ks_X12_332 ?_
          simp only [qIm13_X12_correction_68, qs0m13_X12_correction_68, if_pos c_13] at hJ_13
          exact ev_loc hJ_13 cw_le0
        · have hb := hF_13 c_13
          refine ev_iload_n (pc := 16) dX12_correction_16 rfl ?_
          refine ev_Si (pc := 17) dX12_correction_17 lk_X12_307 cd_X12_isBand ar_X12_isBand ⟨by decide, rfl, rfl⟩ (cv_X12_isBand g n I A J t x3) rfl rfl (Nat.le_of_ble_eq_true rfl) ⟨by decide, by decide⟩ ?_
          have hF_20 := hb
          refine ev_cut (pj := 47) (Lj := [some (.ref (cw_z g + 68)), some (.int x1), some (.int x2), some (.int x3), some (.int x4)]) (stj := [(.int (qs0m20_X12_correction_68 n I A J t x1 x2 x3 x4))]) (σj := hp g (qIm20_X12_correction_68 n I A J t x1 x2 x3 x4) A J t) ?_ (fun hJ_20 => ?_)
          rotate_left
          · refine ev_if_eq (pc := 20) (tgt := 44) dX12_correction_20 (by decide) (fun c_20 => ?_) (fun c_20 => ?_)
            · refine ev_ldcw (pc := 44) dX12_correction_44 ks_X12_332 ?_
              simp only [qIm20_X12_correction_68, qs0m20_X12_correction_68, if_pos c_20] at hJ_20
              exact ev_loc hJ_20 cw_le0
            · have hb := hF_20 c_20
              refine ev_aload_n (pc := 23) dX12_correction_23 rfl ?_
              refine ev_iload (pc := 24) dX12_correction_24 rfl ?_
              refine ev_Vi (pc := 26) dX12_correction_26 lk_X12_337 cd_X12_isKnown ar_X12_isKnown ⟨by decide, rfl, rfl⟩ (cv_X12_isKnown_68 g n I A J t x4) (show 68 < 120 by decide) rfl rfl rfl rfl (Nat.le_of_ble_eq_true rfl) ⟨by decide, by decide⟩ ?_
              have hF_29 := hb
              refine ev_cut (pj := 47) (Lj := [some (.ref (cw_z g + 68)), some (.int x1), some (.int x2), some (.int x3), some (.int x4)]) (stj := [(.int (qs0m29_X12_correction_68 n I A J t x1 x2 x3 x4))]) (σj := hp g (qIm29_X12_correction_68 n I A J t x1 x2 x3 x4) A J t) ?_ (fun hJ_29 => ?_)
              rotate_left
              · refine ev_if_eq (pc := 29) (tgt := 44) dX12_correction_29 (by decide) (fun c_29 => ?_) (fun c_29 => ?_)
                · refine ev_ldcw (pc := 44) dX12_correction_44 ks_X12_332 ?_
                  simp only [qIm29_X12_correction_68, qs0m29_X12_correction_68, if_pos c_29] at hJ_29
                  exact ev_loc hJ_29 cw_le0
                · have hb := hF_29 c_29
                  refine ev_aload_n (pc := 32) dX12_correction_32 rfl ?_
                  refine ev_iload_n (pc := 33) dX12_correction_33 rfl ?_
                  refine ev_iload_n (pc := 34) dX12_correction_34 rfl ?_
                  refine ev_iload_n (pc := 35) dX12_correction_35 rfl ?_
                  refine ev_iload (pc := 36) dX12_correction_36 rfl ?_
                  refine ev_Vi (pc := 38) dX12_correction_38 lk_X12_340 cd_X12_corrected ar_X12_corrected ⟨by decide, rfl, rfl⟩ (cv_X12_corrected_68 g n I A J t x1 x2 x3 x4 hb) (show 68 < 120 by decide) rfl rfl rfl rfl (Nat.le_of_ble_eq_true rfl) ⟨by decide, by decide⟩ ?_
                  refine ev_goto (pc := 41) (tgt := 47) dX12_correction_41 (by decide) ?_
                  simp only [qIm29_X12_correction_68, qs0m29_X12_correction_68, if_neg c_29] at hJ_29
                  exact ev_loc hJ_29 cw_le0
              simp only [qIm20_X12_correction_68, qs0m20_X12_correction_68, if_neg c_20] at hJ_20
              exact ev_loc hJ_20 cw_le0
          simp only [qIm13_X12_correction_68, qs0m13_X12_correction_68, if_neg c_13] at hJ_13
          exact ev_loc hJ_13 cw_le0
      simp only [qIm5_X12_correction_68, qs0m5_X12_correction_68, if_neg c_5] at hJ_5
      exact ev_loc hJ_5 cw_le0
  exact ev_iret (pc := 47) dX12_correction_47 rfl (by decide) (by decide) (hQ _ _ ⟨rfl, rfl⟩)

def qs0m40_X12_isAsked_68 (n : Nat) (I : Nat → Nat → Int32) (A : Nat → Nat → Int32) (J : Nat → Nat → Int64) (t : Bool × Bool) (x1 : Int32) (x2 : Int32) (x3 : Int32) (x4 : Int32) (x5 : Int32) : Int32 := if (px_X12_isHour n I A J t x5) = 0 then 0 else 1
def qs0m32_X12_isAsked_68 (n : Nat) (I : Nat → Nat → Int32) (A : Nat → Nat → Int32) (J : Nat → Nat → Int64) (t : Bool × Bool) (x1 : Int32) (x2 : Int32) (x3 : Int32) (x4 : Int32) (x5 : Int32) : Int32 := if (px_X12_isDay n I A J t x4) = 0 then 0 else (qs0m40_X12_isAsked_68 n I A J t x1 x2 x3 x4 x5)
def qs0m24_X12_isAsked_68 (n : Nat) (I : Nat → Nat → Int32) (A : Nat → Nat → Int32) (J : Nat → Nat → Int64) (t : Bool × Bool) (x1 : Int32) (x2 : Int32) (x3 : Int32) (x4 : Int32) (x5 : Int32) : Int32 := if (px_X12_isLand_68 n I A J t x3) = 0 then 0 else (qs0m32_X12_isAsked_68 n I A J t x1 x2 x3 x4 x5)
def qs0m16_X12_isAsked_68 (n : Nat) (I : Nat → Nat → Int32) (A : Nat → Nat → Int32) (J : Nat → Nat → Int64) (t : Bool × Bool) (x1 : Int32) (x2 : Int32) (x3 : Int32) (x4 : Int32) (x5 : Int32) : Int32 := if (px_X12_isBand n I A J t x2) = 0 then 0 else (qs0m24_X12_isAsked_68 n I A J t x1 x2 x3 x4 x5)
def qs0m9_X12_isAsked_68 (n : Nat) (I : Nat → Nat → Int32) (A : Nat → Nat → Int32) (J : Nat → Nat → Int64) (t : Bool × Bool) (x1 : Int32) (x2 : Int32) (x3 : Int32) (x4 : Int32) (x5 : Int32) : Int32 := if (I 68 40) ≤ x1 then 0 else (qs0m16_X12_isAsked_68 n I A J t x1 x2 x3 x4 x5)
def qs0m1_X12_isAsked_68 (n : Nat) (I : Nat → Nat → Int32) (A : Nat → Nat → Int32) (J : Nat → Nat → Int64) (t : Bool × Bool) (x1 : Int32) (x2 : Int32) (x3 : Int32) (x4 : Int32) (x5 : Int32) : Int32 := if x1 < 0 then 0 else (qs0m9_X12_isAsked_68 n I A J t x1 x2 x3 x4 x5)
def px_X12_isAsked_68 (n : Nat) (I : Nat → Nat → Int32) (A : Nat → Nat → Int32) (J : Nat → Nat → Int64) (t : Bool × Bool) (x1 : Int32) (x2 : Int32) (x3 : Int32) (x4 : Int32) (x5 : Int32) : Int32 := (qs0m1_X12_isAsked_68 n I A J t x1 x2 x3 x4 x5)
set_option maxRecDepth 100000 in
set_option maxHeartbeats 4000000 in
theorem cv_X12_isAsked_68 (g : cw_G) (n : Nat) (I : Nat → Nat → Int32) (A : Nat → Nat → Int32) (J : Nat → Nat → Int64) (t : Bool × Bool) (x1 : Int32) (x2 : Int32) (x3 : Int32) (x4 : Int32) (x5 : Int32) : Cd g mX12_isAsked [(.ref (cw_z g + 68)), (.int x1), (.int x2), (.int x3), (.int x4), (.int x5)] (hp g I A J t) (some (.int (px_X12_isAsked_68 n I A J t x1 x2 x3 x4 x5))) (hp g I A J t) := by
  unfold px_X12_isAsked_68
  refine Cd.of rfl (Nat.le_of_ble_eq_true rfl) (ev_gen (fun Q hQ => ?_))
  refine ev_iload_n (pc := 0) dX12_isAsked_0 rfl ?_
  refine ev_cut (pj := 48) (Lj := [some (.ref (cw_z g + 68)), some (.int x1), some (.int x2), some (.int x3), some (.int x4), some (.int x5)]) (stj := [(.int (qs0m1_X12_isAsked_68 n I A J t x1 x2 x3 x4 x5))]) (σj := hp g I A J t) ?_ (fun hJ_1 => ?_)
  rotate_left
  · refine ev_if_lt (pc := 1) (tgt := 47) dX12_isAsked_1 (by decide) (fun c_1 => ?_) (fun c_1 => ?_)
    · refine ev_iconst (pc := 47) (v := 0) dX12_isAsked_47 (by decide) ?_
      simp only [qs0m1_X12_isAsked_68, if_pos c_1] at hJ_1
      exact ev_loc hJ_1 cw_le0
    · refine ev_iload_n (pc := 4) dX12_isAsked_4 rfl ?_
      refine ev_aload_n (pc := 5) dX12_isAsked_5 rfl ?_
      refine tv_geti (pc := 6) dX12_isAsked_6 fl_X12_289 (by decide) rfl rfl ?_
      refine ev_cut (pj := 48) (Lj := [some (.ref (cw_z g + 68)), some (.int x1), some (.int x2), some (.int x3), some (.int x4), some (.int x5)]) (stj := [(.int (qs0m9_X12_isAsked_68 n I A J t x1 x2 x3 x4 x5))]) (σj := hp g I A J t) ?_ (fun hJ_9 => ?_)
      rotate_left
      · refine ev_icmp_ge (pc := 9) (tgt := 47) dX12_isAsked_9 (by decide) (fun c_9 => ?_) (fun c_9 => ?_)
        · refine ev_iconst (pc := 47) (v := 0) dX12_isAsked_47 (by decide) ?_
          simp only [qs0m9_X12_isAsked_68, if_pos c_9] at hJ_9
          exact ev_loc hJ_9 cw_le0
        · refine ev_iload_n (pc := 12) dX12_isAsked_12 rfl ?_
          refine ev_Si (pc := 13) dX12_isAsked_13 lk_X12_307 cd_X12_isBand ar_X12_isBand ⟨by decide, rfl, rfl⟩ (cv_X12_isBand g n I A J t x2) rfl rfl (Nat.le_of_ble_eq_true rfl) ⟨by decide, by decide⟩ ?_
          refine ev_cut (pj := 48) (Lj := [some (.ref (cw_z g + 68)), some (.int x1), some (.int x2), some (.int x3), some (.int x4), some (.int x5)]) (stj := [(.int (qs0m16_X12_isAsked_68 n I A J t x1 x2 x3 x4 x5))]) (σj := hp g I A J t) ?_ (fun hJ_16 => ?_)
          rotate_left
          · refine ev_if_eq (pc := 16) (tgt := 47) dX12_isAsked_16 (by decide) (fun c_16 => ?_) (fun c_16 => ?_)
            · refine ev_iconst (pc := 47) (v := 0) dX12_isAsked_47 (by decide) ?_
              simp only [qs0m16_X12_isAsked_68, if_pos c_16] at hJ_16
              exact ev_loc hJ_16 cw_le0
            · refine ev_aload_n (pc := 19) dX12_isAsked_19 rfl ?_
              refine ev_iload_n (pc := 20) dX12_isAsked_20 rfl ?_
              refine ev_Vi (pc := 21) dX12_isAsked_21 lk_X12_298 cd_X12_isLand ar_X12_isLand ⟨by decide, rfl, rfl⟩ (cv_X12_isLand_68 g n I A J t x3) (show 68 < 120 by decide) rfl rfl rfl rfl (Nat.le_of_ble_eq_true rfl) ⟨by decide, by decide⟩ ?_
              refine ev_cut (pj := 48) (Lj := [some (.ref (cw_z g + 68)), some (.int x1), some (.int x2), some (.int x3), some (.int x4), some (.int x5)]) (stj := [(.int (qs0m24_X12_isAsked_68 n I A J t x1 x2 x3 x4 x5))]) (σj := hp g I A J t) ?_ (fun hJ_24 => ?_)
              rotate_left
              · refine ev_if_eq (pc := 24) (tgt := 47) dX12_isAsked_24 (by decide) (fun c_24 => ?_) (fun c_24 => ?_)
                · refine ev_iconst (pc := 47) (v := 0) dX12_isAsked_47 (by decide) ?_
                  simp only [qs0m24_X12_isAsked_68, if_pos c_24] at hJ_24
                  exact ev_loc hJ_24 cw_le0
                · refine ev_iload (pc := 27) dX12_isAsked_27 rfl ?_
                  refine ev_Si (pc := 29) dX12_isAsked_29 lk_X12_304 cd_X12_isDay ar_X12_isDay ⟨by decide, rfl, rfl⟩ (cv_X12_isDay g n I A J t x4) rfl rfl (Nat.le_of_ble_eq_true rfl) ⟨by decide, by decide⟩ ?_
                  refine ev_cut (pj := 48) (Lj := [some (.ref (cw_z g + 68)), some (.int x1), some (.int x2), some (.int x3), some (.int x4), some (.int x5)]) (stj := [(.int (qs0m32_X12_isAsked_68 n I A J t x1 x2 x3 x4 x5))]) (σj := hp g I A J t) ?_ (fun hJ_32 => ?_)
                  rotate_left
                  · refine ev_if_eq (pc := 32) (tgt := 47) dX12_isAsked_32 (by decide) (fun c_32 => ?_) (fun c_32 => ?_)
                    · refine ev_iconst (pc := 47) (v := 0) dX12_isAsked_47 (by decide) ?_
                      simp only [qs0m32_X12_isAsked_68, if_pos c_32] at hJ_32
                      exact ev_loc hJ_32 cw_le0
                    · refine ev_iload (pc := 35) dX12_isAsked_35 rfl ?_
                      refine ev_Si (pc := 37) dX12_isAsked_37 lk_X12_310 cd_X12_isHour ar_X12_isHour ⟨by decide, rfl, rfl⟩ (cv_X12_isHour g n I A J t x5) rfl rfl (Nat.le_of_ble_eq_true rfl) ⟨by decide, by decide⟩ ?_
                      refine ev_cut (pj := 48) (Lj := [some (.ref (cw_z g + 68)), some (.int x1), some (.int x2), some (.int x3), some (.int x4), some (.int x5)]) (stj := [(.int (qs0m40_X12_isAsked_68 n I A J t x1 x2 x3 x4 x5))]) (σj := hp g I A J t) ?_ (fun hJ_40 => ?_)
                      rotate_left
                      · refine ev_if_eq (pc := 40) (tgt := 47) dX12_isAsked_40 (by decide) (fun c_40 => ?_) (fun c_40 => ?_)
                        · refine ev_iconst (pc := 47) (v := 0) dX12_isAsked_47 (by decide) ?_
                          simp only [qs0m40_X12_isAsked_68, if_pos c_40] at hJ_40
                          exact ev_loc hJ_40 cw_le0
                        · refine ev_iconst (pc := 43) (v := 1) dX12_isAsked_43 (by decide) ?_
                          refine ev_goto (pc := 44) (tgt := 48) dX12_isAsked_44 (by decide) ?_
                          simp only [qs0m40_X12_isAsked_68, if_neg c_40] at hJ_40
                          exact ev_loc hJ_40 cw_le0
                      simp only [qs0m32_X12_isAsked_68, if_neg c_32] at hJ_32
                      exact ev_loc hJ_32 cw_le0
                  simp only [qs0m24_X12_isAsked_68, if_neg c_24] at hJ_24
                  exact ev_loc hJ_24 cw_le0
              simp only [qs0m16_X12_isAsked_68, if_neg c_16] at hJ_16
              exact ev_loc hJ_16 cw_le0
          simp only [qs0m9_X12_isAsked_68, if_neg c_9] at hJ_9
          exact ev_loc hJ_9 cw_le0
      simp only [qs0m1_X12_isAsked_68, if_neg c_1] at hJ_1
      exact ev_loc hJ_1 cw_le0
  exact ev_zret (pc := 48) dX12_isAsked_48 rfl (cw_nz (cw_ite (Or.inl rfl) (cw_ite (Or.inl rfl) (cw_ite (Or.inl rfl) (cw_ite (Or.inl rfl) (cw_ite (Or.inl rfl) (cw_ite (Or.inl rfl) (Or.inr rfl)))))))) (by decide) (by decide) (hQ _ _ ⟨rfl, rfl⟩)

theorem z1_X12_isAsked_68 (n : Nat) (I : Nat → Nat → Int32) (A : Nat → Nat → Int32) (J : Nat → Nat → Int64) (t : Bool × Bool) (x1 : Int32) (x2 : Int32) (x3 : Int32) (x4 : Int32) (x5 : Int32) : px_X12_isAsked_68 n I A J t x1 x2 x3 x4 x5 = 0 ∨ px_X12_isAsked_68 n I A J t x1 x2 x3 x4 x5 = 1 := (cw_ite (Or.inl rfl) (cw_ite (Or.inl rfl) (cw_ite (Or.inl rfl) (cw_ite (Or.inl rfl) (cw_ite (Or.inl rfl) (cw_ite (Or.inl rfl) (Or.inr rfl)))))))

def q16_X12_strengthOf_68 (n : Nat) (I : Nat → Nat → Int32) (A : Nat → Nat → Int32) (J : Nat → Nat → Int64) (t : Bool × Bool) (x1 : Int32) (x2 : Int32) (x3 : Int32) (x4 : Int32) (x5 : Int32) (x6 : Int32) : Int32 := (px_X12_toldBy_68 n I A J t (A 92 (x1).toNatClampNeg) x3 x2 x4 x5)
def qIm23_X12_strengthOf_68 (n : Nat) (I : Nat → Nat → Int32) (A : Nat → Nat → Int32) (J : Nat → Nat → Int64) (t : Bool × Bool) (x1 : Int32) (x2 : Int32) (x3 : Int32) (x4 : Int32) (x5 : Int32) (x6 : Int32) : Nat → Nat → Int32 := if (q16_X12_strengthOf_68 n I A J t x1 x2 x3 x4 x5 x6) = (-1000000) then (pI_X12_toldBy_68 n I A J t (A 92 (x1).toNatClampNeg) x3 x2 x4 x5) else (pI_X12_corrected_68 n (pI_X12_toldBy_68 n I A J t (A 92 (x1).toNatClampNeg) x3 x2 x4 x5) A J t (A 92 (x1).toNatClampNeg) x3 x2 x6)
def qs0m23_X12_strengthOf_68 (n : Nat) (I : Nat → Nat → Int32) (A : Nat → Nat → Int32) (J : Nat → Nat → Int64) (t : Bool × Bool) (x1 : Int32) (x2 : Int32) (x3 : Int32) (x4 : Int32) (x5 : Int32) (x6 : Int32) : Int32 := if (q16_X12_strengthOf_68 n I A J t x1 x2 x3 x4 x5 x6) = (-1000000) then (-1000000) else (((q16_X12_strengthOf_68 n I A J t x1 x2 x3 x4 x5 x6) + (px_X12_corrected_68 n (pI_X12_toldBy_68 n I A J t (A 92 (x1).toNatClampNeg) x3 x2 x4 x5) A J t (A 92 (x1).toNatClampNeg) x3 x2 x6)) + (A 93 (x1).toNatClampNeg))
def pb_X12_strengthOf_68 (n : Nat) (I : Nat → Nat → Int32) (A : Nat → Nat → Int32) (J : Nat → Nat → Int64) (t : Bool × Bool) (x1 : Int32) (x2 : Int32) (x3 : Int32) (x4 : Int32) (x5 : Int32) (x6 : Int32) : Prop := vp_in x1 6 ∧ pb_X12_toldBy_68 n I A J t (A 92 (x1).toNatClampNeg) x3 x2 x4 x5 ∧ (¬ (q16_X12_strengthOf_68 n I A J t x1 x2 x3 x4 x5 x6) = (-1000000) → vp_in x1 6 ∧ pb_X12_corrected_68 n (pI_X12_toldBy_68 n I A J t (A 92 (x1).toNatClampNeg) x3 x2 x4 x5) A J t (A 92 (x1).toNatClampNeg) x3 x2 x6 ∧ vp_in x1 6)
def px_X12_strengthOf_68 (n : Nat) (I : Nat → Nat → Int32) (A : Nat → Nat → Int32) (J : Nat → Nat → Int64) (t : Bool × Bool) (x1 : Int32) (x2 : Int32) (x3 : Int32) (x4 : Int32) (x5 : Int32) (x6 : Int32) : Int32 := (qs0m23_X12_strengthOf_68 n I A J t x1 x2 x3 x4 x5 x6)
def pI_X12_strengthOf_68 (n : Nat) (I : Nat → Nat → Int32) (A : Nat → Nat → Int32) (J : Nat → Nat → Int64) (t : Bool × Bool) (x1 : Int32) (x2 : Int32) (x3 : Int32) (x4 : Int32) (x5 : Int32) (x6 : Int32) : Nat → Nat → Int32 := (qIm23_X12_strengthOf_68 n I A J t x1 x2 x3 x4 x5 x6)
set_option maxRecDepth 100000 in
set_option maxHeartbeats 4000000 in
theorem cv_X12_strengthOf_68 (g : cw_G) (n : Nat) (I : Nat → Nat → Int32) (A : Nat → Nat → Int32) (J : Nat → Nat → Int64) (t : Bool × Bool) (x1 : Int32) (x2 : Int32) (x3 : Int32) (x4 : Int32) (x5 : Int32) (x6 : Int32) (hb : pb_X12_strengthOf_68 n I A J t x1 x2 x3 x4 x5 x6) : Cd g mX12_strengthOf [(.ref (cw_z g + 68)), (.int x1), (.int x2), (.int x3), (.int x4), (.int x5), (.int x6)] (hp g I A J t) (some (.int (px_X12_strengthOf_68 n I A J t x1 x2 x3 x4 x5 x6))) (hp g (pI_X12_strengthOf_68 n I A J t x1 x2 x3 x4 x5 x6) A J t) := by
  unfold pb_X12_strengthOf_68 at hb
  unfold px_X12_strengthOf_68 pI_X12_strengthOf_68
  refine Cd.of rfl (Nat.le_of_ble_eq_true rfl) (ev_gen (fun Q hQ => ?_))
  refine ev_aload_n (pc := 0) dX12_strengthOf_0 rfl ?_
  refine ev_aload_n (pc := 1) dX12_strengthOf_1 rfl ?_
  refine tv_getr (pc := 2) (d := 92) dX12_strengthOf_2 fl_X12_89 (by decide) rfl rfl ?_
  refine ev_iload_n (pc := 5) dX12_strengthOf_5 rfl ?_
  refine ev_iald (pc := 6) dX12_strengthOf_6 (by decide) rfl hb.1 ?_
  replace hb := hb.2
  refine ev_iload_n (pc := 7) dX12_strengthOf_7 rfl ?_
  refine ev_iload_n (pc := 8) dX12_strengthOf_8 rfl ?_
  refine ev_iload (pc := 9) dX12_strengthOf_9 rfl ?_
  refine ev_iload (pc := 11) dX12_strengthOf_11 rfl ?_
  refine ev_Vi (pc := 13) dX12_strengthOf_13 lk_X12_333 cd_X12_toldBy ar_X12_toldBy ⟨by decide, rfl, rfl⟩ (cv_X12_toldBy_68 g n I A J t (A 92 (x1).toNatClampNeg) x3 x2 x4 x5 hb.1) (show 68 < 120 by decide) rfl rfl rfl rfl (Nat.le_of_ble_eq_true rfl) ⟨by decide, by decide⟩ ?_
  replace hb := hb.2
  refine ev_is (y := (q16_X12_strengthOf_68 n I A J t x1 x2 x3 x4 x5 x6)) rfl ?_
  refine ev_istore_7 (pc := 16) dX12_strengthOf_16 (by decide) rfl ?_
  refine ev_iload (pc := 18) dX12_strengthOf_18 rfl ?_
  refine ev_ldcw (pc := 20) dX12_strengthOf_20 ks_X12_332 ?_
  have hT_23 := hb
  refine ev_cut (pj := 56) (Lj := [some (.ref (cw_z g + 68)), some (.int x1), some (.int x2), some (.int x3), some (.int x4), some (.int x5), some (.int x6), some (.int (q16_X12_strengthOf_68 n I A J t x1 x2 x3 x4 x5 x6))]) (stj := [(.int (qs0m23_X12_strengthOf_68 n I A J t x1 x2 x3 x4 x5 x6))]) (σj := hp g (qIm23_X12_strengthOf_68 n I A J t x1 x2 x3 x4 x5 x6) A J t) ?_ (fun hJ_23 => ?_)
  rotate_left
  · refine ev_icmp_ne (pc := 23) (tgt := 32) dX12_strengthOf_23 (by decide) (fun c_23 => ?_) (fun c_23 => ?_)
    · have hb := hT_23 c_23
      refine ev_iload (pc := 32) dX12_strengthOf_32 rfl ?_
      refine ev_aload_n (pc := 34) dX12_strengthOf_34 rfl ?_
      refine ev_aload_n (pc := 35) dX12_strengthOf_35 rfl ?_
      refine tv_getr (pc := 36) (d := 92) dX12_strengthOf_36 fl_X12_89 (by decide) rfl rfl ?_
      refine ev_iload_n (pc := 39) dX12_strengthOf_39 rfl ?_
      refine ev_iald (pc := 40) dX12_strengthOf_40 (by decide) rfl hb.1 ?_
      replace hb := hb.2
      refine ev_iload_n (pc := 41) dX12_strengthOf_41 rfl ?_
      refine ev_iload_n (pc := 42) dX12_strengthOf_42 rfl ?_
      refine ev_iload (pc := 43) dX12_strengthOf_43 rfl ?_
      refine ev_Vi (pc := 45) dX12_strengthOf_45 lk_X12_340 cd_X12_corrected ar_X12_corrected ⟨by decide, rfl, rfl⟩ (cv_X12_corrected_68 g n (pI_X12_toldBy_68 n I A J t (A 92 (x1).toNatClampNeg) x3 x2 x4 x5) A J t (A 92 (x1).toNatClampNeg) x3 x2 x6 hb.1) (show 68 < 120 by decide) rfl rfl rfl rfl (Nat.le_of_ble_eq_true rfl) ⟨by decide, by decide⟩ ?_
      replace hb := hb.2
      refine ev_iadd (pc := 48) dX12_strengthOf_48 ?_
      refine ev_aload_n (pc := 49) dX12_strengthOf_49 rfl ?_
      refine tv_getr (pc := 50) (d := 93) dX12_strengthOf_50 fl_X12_92 (by decide) rfl rfl ?_
      refine ev_iload_n (pc := 53) dX12_strengthOf_53 rfl ?_
      refine ev_iald (pc := 54) dX12_strengthOf_54 (by decide) rfl hb ?_
      refine ev_iadd (pc := 55) dX12_strengthOf_55 ?_
      simp only [qIm23_X12_strengthOf_68, qs0m23_X12_strengthOf_68, if_neg c_23] at hJ_23
      exact ev_loc hJ_23 cw_le0
    · refine ev_ldcw (pc := 26) dX12_strengthOf_26 ks_X12_332 ?_
      refine ev_goto (pc := 29) (tgt := 56) dX12_strengthOf_29 (by decide) ?_
      simp only [qIm23_X12_strengthOf_68, qs0m23_X12_strengthOf_68, if_pos c_23] at hJ_23
      exact ev_loc hJ_23 cw_le0
  exact ev_iret (pc := 56) dX12_strengthOf_56 rfl (by decide) (by decide) (hQ _ _ ⟨rfl, rfl⟩)

def qIm20_X12_strength_68 (n : Nat) (I : Nat → Nat → Int32) (A : Nat → Nat → Int32) (J : Nat → Nat → Int64) (t : Bool × Bool) (x1 : Int32) (x2 : Int32) (x3 : Int32) (x4 : Int32) (x5 : Int32) (x6 : Int32) : Nat → Nat → Int32 := if (px_X12_isKnown_68 n I A J t x6) = 0 then I else (pI_X12_strengthOf_68 n I A J t x1 x2 x3 x4 x5 x6)
def qs0m20_X12_strength_68 (n : Nat) (I : Nat → Nat → Int32) (A : Nat → Nat → Int32) (J : Nat → Nat → Int64) (t : Bool × Bool) (x1 : Int32) (x2 : Int32) (x3 : Int32) (x4 : Int32) (x5 : Int32) (x6 : Int32) : Int32 := if (px_X12_isKnown_68 n I A J t x6) = 0 then (-1000000) else (px_X12_strengthOf_68 n I A J t x1 x2 x3 x4 x5 x6)
def qIm11_X12_strength_68 (n : Nat) (I : Nat → Nat → Int32) (A : Nat → Nat → Int32) (J : Nat → Nat → Int64) (t : Bool × Bool) (x1 : Int32) (x2 : Int32) (x3 : Int32) (x4 : Int32) (x5 : Int32) (x6 : Int32) : Nat → Nat → Int32 := if (px_X12_isAsked_68 n I A J t x1 x2 x3 x4 x5) = 0 then I else (qIm20_X12_strength_68 n I A J t x1 x2 x3 x4 x5 x6)
def qs0m11_X12_strength_68 (n : Nat) (I : Nat → Nat → Int32) (A : Nat → Nat → Int32) (J : Nat → Nat → Int64) (t : Bool × Bool) (x1 : Int32) (x2 : Int32) (x3 : Int32) (x4 : Int32) (x5 : Int32) (x6 : Int32) : Int32 := if (px_X12_isAsked_68 n I A J t x1 x2 x3 x4 x5) = 0 then (-1000000) else (qs0m20_X12_strength_68 n I A J t x1 x2 x3 x4 x5 x6)
def pb_X12_strength_68 (n : Nat) (I : Nat → Nat → Int32) (A : Nat → Nat → Int32) (J : Nat → Nat → Int64) (t : Bool × Bool) (x1 : Int32) (x2 : Int32) (x3 : Int32) (x4 : Int32) (x5 : Int32) (x6 : Int32) : Prop := (¬ (px_X12_isAsked_68 n I A J t x1 x2 x3 x4 x5) = 0 → (¬ (px_X12_isKnown_68 n I A J t x6) = 0 → pb_X12_strengthOf_68 n I A J t x1 x2 x3 x4 x5 x6))
def px_X12_strength_68 (n : Nat) (I : Nat → Nat → Int32) (A : Nat → Nat → Int32) (J : Nat → Nat → Int64) (t : Bool × Bool) (x1 : Int32) (x2 : Int32) (x3 : Int32) (x4 : Int32) (x5 : Int32) (x6 : Int32) : Int32 := (qs0m11_X12_strength_68 n I A J t x1 x2 x3 x4 x5 x6)
def pI_X12_strength_68 (n : Nat) (I : Nat → Nat → Int32) (A : Nat → Nat → Int32) (J : Nat → Nat → Int64) (t : Bool × Bool) (x1 : Int32) (x2 : Int32) (x3 : Int32) (x4 : Int32) (x5 : Int32) (x6 : Int32) : Nat → Nat → Int32 := (qIm11_X12_strength_68 n I A J t x1 x2 x3 x4 x5 x6)
set_option maxRecDepth 100000 in
set_option maxHeartbeats 4000000 in
theorem cv_X12_strength_68 (g : cw_G) (n : Nat) (I : Nat → Nat → Int32) (A : Nat → Nat → Int32) (J : Nat → Nat → Int64) (t : Bool × Bool) (x1 : Int32) (x2 : Int32) (x3 : Int32) (x4 : Int32) (x5 : Int32) (x6 : Int32) (hb : pb_X12_strength_68 n I A J t x1 x2 x3 x4 x5 x6) : Cd g mX12_strength [(.ref (cw_z g + 68)), (.int x1), (.int x2), (.int x3), (.int x4), (.int x5), (.int x6)] (hp g I A J t) (some (.int (px_X12_strength_68 n I A J t x1 x2 x3 x4 x5 x6))) (hp g (pI_X12_strength_68 n I A J t x1 x2 x3 x4 x5 x6) A J t) := by
  unfold pb_X12_strength_68 at hb
  unfold px_X12_strength_68 pI_X12_strength_68
  refine Cd.of rfl (Nat.le_of_ble_eq_true rfl) (ev_gen (fun Q hQ => ?_))
  refine ev_aload_n (pc := 0) dX12_strength_0 rfl ?_
  refine ev_iload_n (pc := 1) dX12_strength_1 rfl ?_
  refine ev_iload_n (pc := 2) dX12_strength_2 rfl ?_
  refine ev_iload_n (pc := 3) dX12_strength_3 rfl ?_
  refine ev_iload (pc := 4) dX12_strength_4 rfl ?_
  refine ev_iload (pc := 6) dX12_strength_6 rfl ?_
  refine ev_Vi (pc := 8) dX12_strength_8 lk_X12_344 cd_X12_isAsked ar_X12_isAsked ⟨by decide, rfl, rfl⟩ (cv_X12_isAsked_68 g n I A J t x1 x2 x3 x4 x5) (show 68 < 120 by decide) rfl rfl rfl rfl (Nat.le_of_ble_eq_true rfl) ⟨by decide, by decide⟩ ?_
  have hF_11 := hb
  refine ev_cut (pj := 42) (Lj := [some (.ref (cw_z g + 68)), some (.int x1), some (.int x2), some (.int x3), some (.int x4), some (.int x5), some (.int x6)]) (stj := [(.int (qs0m11_X12_strength_68 n I A J t x1 x2 x3 x4 x5 x6))]) (σj := hp g (qIm11_X12_strength_68 n I A J t x1 x2 x3 x4 x5 x6) A J t) ?_ (fun hJ_11 => ?_)
  rotate_left
  · refine ev_if_eq (pc := 11) (tgt := 39) dX12_strength_11 (by decide) (fun c_11 => ?_) (fun c_11 => ?_)
    · refine ev_ldcw (pc := 39) dX12_strength_39 ks_X12_332 ?_
      simp only [qIm11_X12_strength_68, qs0m11_X12_strength_68, if_pos c_11] at hJ_11
      exact ev_loc hJ_11 cw_le0
    · have hb := hF_11 c_11
      refine ev_aload_n (pc := 14) dX12_strength_14 rfl ?_
      refine ev_iload (pc := 15) dX12_strength_15 rfl ?_
      refine ev_Vi (pc := 17) dX12_strength_17 lk_X12_337 cd_X12_isKnown ar_X12_isKnown ⟨by decide, rfl, rfl⟩ (cv_X12_isKnown_68 g n I A J t x6) (show 68 < 120 by decide) rfl rfl rfl rfl (Nat.le_of_ble_eq_true rfl) ⟨by decide, by decide⟩ ?_
      have hF_20 := hb
      refine ev_cut (pj := 42) (Lj := [some (.ref (cw_z g + 68)), some (.int x1), some (.int x2), some (.int x3), some (.int x4), some (.int x5), some (.int x6)]) (stj := [(.int (qs0m20_X12_strength_68 n I A J t x1 x2 x3 x4 x5 x6))]) (σj := hp g (qIm20_X12_strength_68 n I A J t x1 x2 x3 x4 x5 x6) A J t) ?_ (fun hJ_20 => ?_)
      rotate_left
      · refine ev_if_eq (pc := 20) (tgt := 39) dX12_strength_20 (by decide) (fun c_20 => ?_) (fun c_20 => ?_)
        · refine ev_ldcw (pc := 39) dX12_strength_39 ks_X12_332 ?_
          simp only [qIm20_X12_strength_68, qs0m20_X12_strength_68, if_pos c_20] at hJ_20
          exact ev_loc hJ_20 cw_le0
        · have hb := hF_20 c_20
          refine ev_aload_n (pc := 23) dX12_strength_23 rfl ?_
          refine ev_iload_n (pc := 24) dX12_strength_24 rfl ?_
          refine ev_iload_n (pc := 25) dX12_strength_25 rfl ?_
          refine ev_iload_n (pc := 26) dX12_strength_26 rfl ?_
          refine ev_iload (pc := 27) dX12_strength_27 rfl ?_
          refine ev_iload (pc := 29) dX12_strength_29 rfl ?_
          refine ev_iload (pc := 31) dX12_strength_31 rfl ?_
          refine ev_Vi (pc := 33) dX12_strength_33 lk_X12_348 cd_X12_strengthOf ar_X12_strengthOf ⟨by decide, rfl, rfl⟩ (cv_X12_strengthOf_68 g n I A J t x1 x2 x3 x4 x5 x6 hb) (show 68 < 120 by decide) rfl rfl rfl rfl (Nat.le_of_ble_eq_true rfl) ⟨by decide, by decide⟩ ?_
          refine ev_goto (pc := 36) (tgt := 42) dX12_strength_36 (by decide) ?_
          simp only [qIm20_X12_strength_68, qs0m20_X12_strength_68, if_neg c_20] at hJ_20
          exact ev_loc hJ_20 cw_le0
      simp only [qIm11_X12_strength_68, qs0m11_X12_strength_68, if_neg c_11] at hJ_11
      exact ev_loc hJ_11 cw_le0
  exact ev_iret (pc := 42) dX12_strength_42 rfl (by decide) (by decide) (hQ _ _ ⟨rfl, rfl⟩)

def qs0m74_X12_clashes_68 (n : Nat) (I : Nat → Nat → Int32) (A : Nat → Nat → Int32) (J : Nat → Nat → Int64) (t : Bool × Bool) (x1 : Int32) (x2 : Int32) (x3 : Int32) (x4 : Int32) (x5 : Int32) : Int32 := if (px_X12_far_68 n (pI_X12_goes_68 n I A J t x2 (A 102 (x5).toNatClampNeg)) A J t ) = 0 then 1 else 0
def pb_X12_clashes_68 (n : Nat) (I : Nat → Nat → Int32) (A : Nat → Nat → Int32) (J : Nat → Nat → Int64) (t : Bool × Bool) (x1 : Int32) (x2 : Int32) (x3 : Int32) (x4 : Int32) (x5 : Int32) : Prop := vp_in x5 300 ∧ (¬ (A 99 (x5).toNatClampNeg) = 0 → vp_in x5 300 ∧ (¬ x3 < (A 100 (x5).toNatClampNeg) → vp_in x5 300 ∧ ((A 103 (x5).toNatClampNeg) = x1 → vp_in x5 300 ∧ (¬ x4 < (A 104 (x5).toNatClampNeg) → vp_in x5 300 ∧ (x4 < (A 105 (x5).toNatClampNeg) → vp_in x5 300 ∧ pb_X12_goes_68 n I A J t x2 (A 102 (x5).toNatClampNeg))))))
def px_X12_clashes_68 (n : Nat) (I : Nat → Nat → Int32) (A : Nat → Nat → Int32) (J : Nat → Nat → Int64) (t : Bool × Bool) (x1 : Int32) (x2 : Int32) (x3 : Int32) (x4 : Int32) (x5 : Int32) : Int32 := (if (A 99 (x5).toNatClampNeg) = 0 then 0 else (if x3 < (A 100 (x5).toNatClampNeg) then 0 else (if (A 103 (x5).toNatClampNeg) = x1 then (if x4 < (A 104 (x5).toNatClampNeg) then 0 else (if x4 < (A 105 (x5).toNatClampNeg) then (qs0m74_X12_clashes_68 n I A J t x1 x2 x3 x4 x5) else 0)) else 0)))
def pI_X12_clashes_68 (n : Nat) (I : Nat → Nat → Int32) (A : Nat → Nat → Int32) (J : Nat → Nat → Int64) (t : Bool × Bool) (x1 : Int32) (x2 : Int32) (x3 : Int32) (x4 : Int32) (x5 : Int32) : Nat → Nat → Int32 := (if (A 99 (x5).toNatClampNeg) = 0 then I else (if x3 < (A 100 (x5).toNatClampNeg) then I else (if (A 103 (x5).toNatClampNeg) = x1 then (if x4 < (A 104 (x5).toNatClampNeg) then I else (if x4 < (A 105 (x5).toNatClampNeg) then (pI_X12_goes_68 n I A J t x2 (A 102 (x5).toNatClampNeg)) else I)) else I)))
set_option maxRecDepth 100000 in
set_option maxHeartbeats 4000000 in
theorem cv_X12_clashes_68 (g : cw_G) (n : Nat) (I : Nat → Nat → Int32) (A : Nat → Nat → Int32) (J : Nat → Nat → Int64) (t : Bool × Bool) (x1 : Int32) (x2 : Int32) (x3 : Int32) (x4 : Int32) (x5 : Int32) (hb : pb_X12_clashes_68 n I A J t x1 x2 x3 x4 x5) : Cd g mX12_clashes [(.ref (cw_z g + 68)), (.int x1), (.int x2), (.int x3), (.int x4), (.int x5)] (hp g I A J t) (some (.int (px_X12_clashes_68 n I A J t x1 x2 x3 x4 x5))) (hp g (pI_X12_clashes_68 n I A J t x1 x2 x3 x4 x5) A J t) := by
  unfold pb_X12_clashes_68 at hb
  unfold px_X12_clashes_68 pI_X12_clashes_68
  refine Cd.of rfl (Nat.le_of_ble_eq_true rfl) (ev_gen (fun Q hQ => ?_))
  refine ev_aload_n (pc := 0) dX12_clashes_0 rfl ?_
  refine tv_getr (pc := 1) (d := 99) dX12_clashes_1 fl_X12_110 (by decide) rfl rfl ?_
  refine ev_iload (pc := 4) dX12_clashes_4 rfl ?_
  refine ev_zald (pc := 6) dX12_clashes_6 (by decide) rfl hb.1 ?_
  replace hb := hb.2
  have hF_7 := hb
  refine ev_if_eq (pc := 7) (tgt := 56) dX12_clashes_7 (by decide) (fun c_7 => ?_) (fun c_7 => ?_)
  · try simp only [if_pos c_7] at hQ
    refine ev_iconst (pc := 56) (v := 0) dX12_clashes_56 (by decide) ?_
    exact ev_zret (pc := 57) dX12_clashes_57 rfl rfl (by decide) (by decide) (hQ _ _ ⟨rfl, rfl⟩)
  · have hb := hF_7 c_7
    try simp only [if_neg c_7] at hQ
    refine ev_aload_n (pc := 10) dX12_clashes_10 rfl ?_
    refine tv_getr (pc := 11) (d := 100) dX12_clashes_11 fl_X12_113 (by decide) rfl rfl ?_
    refine ev_iload (pc := 14) dX12_clashes_14 rfl ?_
    refine ev_iald (pc := 16) dX12_clashes_16 (by decide) rfl hb.1 ?_
    replace hb := hb.2
    refine ev_iload_n (pc := 17) dX12_clashes_17 rfl ?_
    have hF_18 := hb
    refine ev_icmp_gt (pc := 18) (tgt := 56) dX12_clashes_18 (by decide) (fun c_18 => ?_) (fun c_18 => ?_)
    · try simp only [if_pos c_18] at hQ
      refine ev_iconst (pc := 56) (v := 0) dX12_clashes_56 (by decide) ?_
      exact ev_zret (pc := 57) dX12_clashes_57 rfl rfl (by decide) (by decide) (hQ _ _ ⟨rfl, rfl⟩)
    · have hb := hF_18 c_18
      try simp only [if_neg c_18] at hQ
      refine ev_aload_n (pc := 21) dX12_clashes_21 rfl ?_
      refine tv_getr (pc := 22) (d := 103) dX12_clashes_22 fl_X12_122 (by decide) rfl rfl ?_
      refine ev_iload (pc := 25) dX12_clashes_25 rfl ?_
      refine ev_iald (pc := 27) dX12_clashes_27 (by decide) rfl hb.1 ?_
      replace hb := hb.2
      refine ev_iload_n (pc := 28) dX12_clashes_28 rfl ?_
      have hF_29 := hb
      refine ev_icmp_ne (pc := 29) (tgt := 56) dX12_clashes_29 (by decide) (fun c_29 => ?_) (fun c_29 => ?_)
      · try simp only [if_neg c_29] at hQ
        refine ev_iconst (pc := 56) (v := 0) dX12_clashes_56 (by decide) ?_
        exact ev_zret (pc := 57) dX12_clashes_57 rfl rfl (by decide) (by decide) (hQ _ _ ⟨rfl, rfl⟩)
      · have hb := hF_29 c_29
        try simp only [if_pos c_29] at hQ
        refine ev_iload (pc := 32) dX12_clashes_32 rfl ?_
        refine ev_aload_n (pc := 34) dX12_clashes_34 rfl ?_
        refine tv_getr (pc := 35) (d := 104) dX12_clashes_35 fl_X12_125 (by decide) rfl rfl ?_
        refine ev_iload (pc := 38) dX12_clashes_38 rfl ?_
        refine ev_iald (pc := 40) dX12_clashes_40 (by decide) rfl hb.1 ?_
        replace hb := hb.2
        have hF_41 := hb
        refine ev_icmp_lt (pc := 41) (tgt := 56) dX12_clashes_41 (by decide) (fun c_41 => ?_) (fun c_41 => ?_)
        · try simp only [if_pos c_41] at hQ
          refine ev_iconst (pc := 56) (v := 0) dX12_clashes_56 (by decide) ?_
          exact ev_zret (pc := 57) dX12_clashes_57 rfl rfl (by decide) (by decide) (hQ _ _ ⟨rfl, rfl⟩)
        · have hb := hF_41 c_41
          try simp only [if_neg c_41] at hQ
          refine ev_iload (pc := 44) dX12_clashes_44 rfl ?_
          refine ev_aload_n (pc := 46) dX12_clashes_46 rfl ?_
          refine tv_getr (pc := 47) (d := 105) dX12_clashes_47 fl_X12_128 (by decide) rfl rfl ?_
          refine ev_iload (pc := 50) dX12_clashes_50 rfl ?_
          refine ev_iald (pc := 52) dX12_clashes_52 (by decide) rfl hb.1 ?_
          replace hb := hb.2
          have hT_53 := hb
          refine ev_icmp_lt (pc := 53) (tgt := 58) dX12_clashes_53 (by decide) (fun c_53 => ?_) (fun c_53 => ?_)
          · have hb := hT_53 c_53
            try simp only [if_pos c_53] at hQ
            refine ev_aload_n (pc := 58) dX12_clashes_58 rfl ?_
            refine ev_iload_n (pc := 59) dX12_clashes_59 rfl ?_
            refine ev_aload_n (pc := 60) dX12_clashes_60 rfl ?_
            refine tv_getr (pc := 61) (d := 102) dX12_clashes_61 fl_X12_119 (by decide) rfl rfl ?_
            refine ev_iload (pc := 64) dX12_clashes_64 rfl ?_
            refine ev_iald (pc := 66) dX12_clashes_66 (by decide) rfl hb.1 ?_
            replace hb := hb.2
            refine ev_Vv (pc := 67) dX12_clashes_67 lk_X12_322 cd_X12_goes ar_X12_goes ⟨by decide, rfl, rfl⟩ (cv_X12_goes_68 g n I A J t x2 (A 102 (x5).toNatClampNeg) hb) (show 68 < 120 by decide) rfl rfl rfl rfl (Nat.le_of_ble_eq_true rfl) ⟨by decide, by decide⟩ ?_
            refine ev_aload_n (pc := 70) dX12_clashes_70 rfl ?_
            refine ev_Vi (pc := 71) dX12_clashes_71 lk_X12_325 cd_X12_far ar_X12_far ⟨by decide, rfl, rfl⟩ (cv_X12_far_68 g n (pI_X12_goes_68 n I A J t x2 (A 102 (x5).toNatClampNeg)) A J t ) (show 68 < 120 by decide) rfl rfl rfl rfl (Nat.le_of_ble_eq_true rfl) ⟨by decide, by decide⟩ ?_
            refine ev_cut (pj := 82) (Lj := [some (.ref (cw_z g + 68)), some (.int x1), some (.int x2), some (.int x3), some (.int x4), some (.int x5)]) (stj := [(.int (qs0m74_X12_clashes_68 n I A J t x1 x2 x3 x4 x5))]) (σj := hp g (pI_X12_goes_68 n I A J t x2 (A 102 (x5).toNatClampNeg)) A J t) ?_ (fun hJ_74 => ?_)
            rotate_left
            · refine ev_if_ne (pc := 74) (tgt := 81) dX12_clashes_74 (by decide) (fun c_74 => ?_) (fun c_74 => ?_)
              · refine ev_iconst (pc := 81) (v := 0) dX12_clashes_81 (by decide) ?_
                simp only [qs0m74_X12_clashes_68, if_neg c_74] at hJ_74
                exact ev_loc hJ_74 cw_le0
              · refine ev_iconst (pc := 77) (v := 1) dX12_clashes_77 (by decide) ?_
                refine ev_goto (pc := 78) (tgt := 82) dX12_clashes_78 (by decide) ?_
                simp only [qs0m74_X12_clashes_68, if_pos c_74] at hJ_74
                exact ev_loc hJ_74 cw_le0
            exact ev_zret (pc := 82) dX12_clashes_82 rfl (cw_nz (cw_ite (Or.inr rfl) (Or.inl rfl))) (by decide) (by decide) (hQ _ _ ⟨rfl, rfl⟩)
          · try simp only [if_neg c_53] at hQ
            refine ev_iconst (pc := 56) (v := 0) dX12_clashes_56 (by decide) ?_
            exact ev_zret (pc := 57) dX12_clashes_57 rfl rfl (by decide) (by decide) (hQ _ _ ⟨rfl, rfl⟩)

theorem z1_X12_clashes_68 (n : Nat) (I : Nat → Nat → Int32) (A : Nat → Nat → Int32) (J : Nat → Nat → Int64) (t : Bool × Bool) (x1 : Int32) (x2 : Int32) (x3 : Int32) (x4 : Int32) (x5 : Int32) : px_X12_clashes_68 n I A J t x1 x2 x3 x4 x5 = 0 ∨ px_X12_clashes_68 n I A J t x1 x2 x3 x4 x5 = 1 := (cw_ite (Or.inl rfl) (cw_ite (Or.inl rfl) (cw_ite (cw_ite (Or.inl rfl) (cw_ite (cw_ite (Or.inr rfl) (Or.inl rfl)) (Or.inl rfl))) (Or.inl rfl))))

def q43_X12_slot_68 (n : Nat) (I : Nat → Nat → Int32) (A : Nat → Nat → Int32) (J : Nat → Nat → Int64) (t : Bool × Bool) (x1 : Int32) (x2 : Int32) (x3 : Int32) : Int32 := (((10 : Int32) * x1) + x2)
def qs0m58_X12_slot_68 (n : Nat) (I : Nat → Nat → Int32) (A : Nat → Nat → Int32) (J : Nat → Nat → Int64) (t : Bool × Bool) (x1 : Int32) (x2 : Int32) (x3 : Int32) : Int32 := if x3 = 3 then 0 else (-1)
def pb_X12_slot_68 (n : Nat) (I : Nat → Nat → Int32) (A : Nat → Nat → Int32) (J : Nat → Nat → Int64) (t : Bool × Bool) (x1 : Int32) (x2 : Int32) (x3 : Int32) : Prop := (¬ (I 68 64) = 0 → (¬ (px_X12_isHour n I A J t x1) = 0 → (¬ x2 < 0 → (¬ (I 68 65) ≤ x2 → (¬ x3 < 0 → (x3 ≤ 3 → vp_in (q43_X12_slot_68 n I A J t x1 x2 x3) 240 ∧ (¬ (A 109 ((q43_X12_slot_68 n I A J t x1 x2 x3)).toNatClampNeg) = (-1) → (x3 = 0 → vp_in (q43_X12_slot_68 n I A J t x1 x2 x3) 240) ∧ (x3 = 1 → vp_in (q43_X12_slot_68 n I A J t x1 x2 x3) 240) ∧ (x3 = 2 → vp_in (q43_X12_slot_68 n I A J t x1 x2 x3) 240) ∧ vp_in (q43_X12_slot_68 n I A J t x1 x2 x3) 240)))))))
def px_X12_slot_68 (n : Nat) (I : Nat → Nat → Int32) (A : Nat → Nat → Int32) (J : Nat → Nat → Int64) (t : Bool × Bool) (x1 : Int32) (x2 : Int32) (x3 : Int32) : Int32 := (if (I 68 64) = 0 then (-1) else (if (px_X12_isHour n I A J t x1) = 0 then (-1) else (if x2 < 0 then (-1) else (if (I 68 65) ≤ x2 then (-1) else (if x3 < 0 then (-1) else (if x3 ≤ 3 then (if (A 109 ((q43_X12_slot_68 n I A J t x1 x2 x3)).toNatClampNeg) = (-1) then (qs0m58_X12_slot_68 n I A J t x1 x2 x3) else (if x3 = 0 then (A 109 ((q43_X12_slot_68 n I A J t x1 x2 x3)).toNatClampNeg) else (if x3 = 1 then (A 110 ((q43_X12_slot_68 n I A J t x1 x2 x3)).toNatClampNeg) else (if x3 = 2 then (A 111 ((q43_X12_slot_68 n I A J t x1 x2 x3)).toNatClampNeg) else (A 112 ((q43_X12_slot_68 n I A J t x1 x2 x3)).toNatClampNeg))))) else (-1)))))))
set_option maxRecDepth 100000 in
set_option maxHeartbeats 4000000 in
theorem cv_X12_slot_68 (g : cw_G) (n : Nat) (I : Nat → Nat → Int32) (A : Nat → Nat → Int32) (J : Nat → Nat → Int64) (t : Bool × Bool) (x1 : Int32) (x2 : Int32) (x3 : Int32) (hb : pb_X12_slot_68 n I A J t x1 x2 x3) : Cd g mX12_slot [(.ref (cw_z g + 68)), (.int x1), (.int x2), (.int x3)] (hp g I A J t) (some (.int (px_X12_slot_68 n I A J t x1 x2 x3))) (hp g I A J t) := by
  unfold pb_X12_slot_68 at hb
  unfold px_X12_slot_68
  refine Cd.of rfl (Nat.le_of_ble_eq_true rfl) (ev_gen (fun Q hQ => ?_))
  refine ev_aload_n (pc := 0) dX12_slot_0 rfl ?_
  refine tv_geti (pc := 1) dX12_slot_1 fl_X12_375 (by decide) rfl rfl ?_
  have hF_4 := hb
  refine ev_if_eq (pc := 4) (tgt := 35) dX12_slot_4 (by decide) (fun c_4 => ?_) (fun c_4 => ?_)
  · try simp only [if_pos c_4] at hQ
    refine ev_iconst (pc := 35) (v := (-1)) dX12_slot_35 (by decide) ?_
    exact ev_iret (pc := 36) dX12_slot_36 rfl (by decide) (by decide) (hQ _ _ ⟨rfl, rfl⟩)
  · have hb := hF_4 c_4
    try simp only [if_neg c_4] at hQ
    refine ev_iload_n (pc := 7) dX12_slot_7 rfl ?_
    refine ev_Si (pc := 8) dX12_slot_8 lk_X12_310 cd_X12_isHour ar_X12_isHour ⟨by decide, rfl, rfl⟩ (cv_X12_isHour g n I A J t x1) rfl rfl (Nat.le_of_ble_eq_true rfl) ⟨by decide, by decide⟩ ?_
    have hF_11 := hb
    refine ev_if_eq (pc := 11) (tgt := 35) dX12_slot_11 (by decide) (fun c_11 => ?_) (fun c_11 => ?_)
    · try simp only [if_pos c_11] at hQ
      refine ev_iconst (pc := 35) (v := (-1)) dX12_slot_35 (by decide) ?_
      exact ev_iret (pc := 36) dX12_slot_36 rfl (by decide) (by decide) (hQ _ _ ⟨rfl, rfl⟩)
    · have hb := hF_11 c_11
      try simp only [if_neg c_11] at hQ
      refine ev_iload_n (pc := 14) dX12_slot_14 rfl ?_
      have hF_15 := hb
      refine ev_if_lt (pc := 15) (tgt := 35) dX12_slot_15 (by decide) (fun c_15 => ?_) (fun c_15 => ?_)
      · try simp only [if_pos c_15] at hQ
        refine ev_iconst (pc := 35) (v := (-1)) dX12_slot_35 (by decide) ?_
        exact ev_iret (pc := 36) dX12_slot_36 rfl (by decide) (by decide) (hQ _ _ ⟨rfl, rfl⟩)
      · have hb := hF_15 c_15
        try simp only [if_neg c_15] at hQ
        refine ev_iload_n (pc := 18) dX12_slot_18 rfl ?_
        refine ev_aload_n (pc := 19) dX12_slot_19 rfl ?_
        refine tv_geti (pc := 20) dX12_slot_20 fl_X12_379 (by decide) rfl rfl ?_
        have hF_23 := hb
        refine ev_icmp_ge (pc := 23) (tgt := 35) dX12_slot_23 (by decide) (fun c_23 => ?_) (fun c_23 => ?_)
        · try simp only [if_pos c_23] at hQ
          refine ev_iconst (pc := 35) (v := (-1)) dX12_slot_35 (by decide) ?_
          exact ev_iret (pc := 36) dX12_slot_36 rfl (by decide) (by decide) (hQ _ _ ⟨rfl, rfl⟩)
        · have hb := hF_23 c_23
          try simp only [if_neg c_23] at hQ
          refine ev_iload_n (pc := 26) dX12_slot_26 rfl ?_
          have hF_27 := hb
          refine ev_if_lt (pc := 27) (tgt := 35) dX12_slot_27 (by decide) (fun c_27 => ?_) (fun c_27 => ?_)
          · try simp only [if_pos c_27] at hQ
            refine ev_iconst (pc := 35) (v := (-1)) dX12_slot_35 (by decide) ?_
            exact ev_iret (pc := 36) dX12_slot_36 rfl (by decide) (by decide) (hQ _ _ ⟨rfl, rfl⟩)
          · have hb := hF_27 c_27
            try simp only [if_neg c_27] at hQ
            refine ev_iload_n (pc := 30) dX12_slot_30 rfl ?_
            refine ev_iconst (pc := 31) (v := 3) dX12_slot_31 (by decide) ?_
            have hT_32 := hb
            refine ev_icmp_le (pc := 32) (tgt := 37) dX12_slot_32 (by decide) (fun c_32 => ?_) (fun c_32 => ?_)
            · have hb := hT_32 c_32
              try simp only [if_pos c_32] at hQ
              refine ev_bipush (pc := 37) (v := 10) dX12_slot_37 (by decide) ?_
              refine ev_iload_n (pc := 39) dX12_slot_39 rfl ?_
              refine ev_imul (pc := 40) dX12_slot_40 ?_
              refine ev_iload_n (pc := 41) dX12_slot_41 rfl ?_
              refine ev_iadd (pc := 42) dX12_slot_42 ?_
              refine ev_is (y := (q43_X12_slot_68 n I A J t x1 x2 x3)) rfl ?_
              refine ev_istore_4 (pc := 43) dX12_slot_43 (by decide) rfl ?_
              refine ev_aload_n (pc := 45) dX12_slot_45 rfl ?_
              refine tv_getr (pc := 46) (d := 109) dX12_slot_46 fl_X12_140 (by decide) rfl rfl ?_
              refine ev_iload (pc := 49) dX12_slot_49 rfl ?_
              refine ev_iald (pc := 51) dX12_slot_51 (by decide) rfl hb.1 ?_
              replace hb := hb.2
              refine ev_iconst (pc := 52) (v := (-1)) dX12_slot_52 (by decide) ?_
              have hT_53 := hb
              refine ev_icmp_ne (pc := 53) (tgt := 67) dX12_slot_53 (by decide) (fun c_53 => ?_) (fun c_53 => ?_)
              · have hb := hT_53 c_53
                try simp only [if_neg c_53] at hQ
                refine ev_iload_n (pc := 67) dX12_slot_67 rfl ?_
                obtain ⟨hS_0_68, hS_1_68, hS_2_68, hD_68⟩ := hb
                by_cases s_68_0 : x3 = 0
                · try simp only [if_pos s_68_0] at hQ
                  have hb := hS_0_68 s_68_0
                  refine ev_tableIn (pc := 68) (tgt := 96) (off := 28) dX12_slot_68 (by rw [s_68_0]; decide) (by rw [s_68_0]; decide) (by rw [s_68_0]; decide) (by decide) ?_
                  refine ev_aload_n (pc := 96) dX12_slot_96 rfl ?_
                  refine tv_getr (pc := 97) (d := 109) dX12_slot_97 fl_X12_140 (by decide) rfl rfl ?_
                  refine ev_iload (pc := 100) dX12_slot_100 rfl ?_
                  refine ev_iald (pc := 102) dX12_slot_102 (by decide) rfl hb ?_
                  exact ev_iret (pc := 103) dX12_slot_103 rfl (by decide) (by decide) (hQ _ _ ⟨rfl, rfl⟩)
                try simp only [if_neg s_68_0] at hQ
                by_cases s_68_1 : x3 = 1
                · try simp only [if_pos s_68_1] at hQ
                  have hb := hS_1_68 s_68_1
                  refine ev_tableIn (pc := 68) (tgt := 104) (off := 36) dX12_slot_68 (by rw [s_68_1]; decide) (by rw [s_68_1]; decide) (by rw [s_68_1]; decide) (by decide) ?_
                  refine ev_aload_n (pc := 104) dX12_slot_104 rfl ?_
                  refine tv_getr (pc := 105) (d := 110) dX12_slot_105 fl_X12_143 (by decide) rfl rfl ?_
                  refine ev_iload (pc := 108) dX12_slot_108 rfl ?_
                  refine ev_iald (pc := 110) dX12_slot_110 (by decide) rfl hb ?_
                  exact ev_iret (pc := 111) dX12_slot_111 rfl (by decide) (by decide) (hQ _ _ ⟨rfl, rfl⟩)
                try simp only [if_neg s_68_1] at hQ
                by_cases s_68_2 : x3 = 2
                · try simp only [if_pos s_68_2] at hQ
                  have hb := hS_2_68 s_68_2
                  refine ev_tableIn (pc := 68) (tgt := 112) (off := 44) dX12_slot_68 (by rw [s_68_2]; decide) (by rw [s_68_2]; decide) (by rw [s_68_2]; decide) (by decide) ?_
                  refine ev_aload_n (pc := 112) dX12_slot_112 rfl ?_
                  refine tv_getr (pc := 113) (d := 111) dX12_slot_113 fl_X12_146 (by decide) rfl rfl ?_
                  refine ev_iload (pc := 116) dX12_slot_116 rfl ?_
                  refine ev_iald (pc := 118) dX12_slot_118 (by decide) rfl hb ?_
                  exact ev_iret (pc := 119) dX12_slot_119 rfl (by decide) (by decide) (hQ _ _ ⟨rfl, rfl⟩)
                try simp only [if_neg s_68_2] at hQ
                have hb := hD_68
                refine ev_tableOut (pc := 68) (tgt := 120) dX12_slot_68 (by simp only [← Int32.toInt_inj, Int32.reduceToInt] at s_68_0 s_68_1 s_68_2; omega) (by decide) ?_
                refine ev_aload_n (pc := 120) dX12_slot_120 rfl ?_
                refine tv_getr (pc := 121) (d := 112) dX12_slot_121 fl_X12_149 (by decide) rfl rfl ?_
                refine ev_iload (pc := 124) dX12_slot_124 rfl ?_
                refine ev_iald (pc := 126) dX12_slot_126 (by decide) rfl hb ?_
                exact ev_iret (pc := 127) dX12_slot_127 rfl (by decide) (by decide) (hQ _ _ ⟨rfl, rfl⟩)
              · try simp only [if_pos c_53] at hQ
                refine ev_iload_n (pc := 56) dX12_slot_56 rfl ?_
                refine ev_iconst (pc := 57) (v := 3) dX12_slot_57 (by decide) ?_
                refine ev_cut (pj := 66) (Lj := [some (.ref (cw_z g + 68)), some (.int x1), some (.int x2), some (.int x3), some (.int (q43_X12_slot_68 n I A J t x1 x2 x3))]) (stj := [(.int (qs0m58_X12_slot_68 n I A J t x1 x2 x3))]) (σj := hp g I A J t) ?_ (fun hJ_58 => ?_)
                rotate_left
                · refine ev_icmp_ne (pc := 58) (tgt := 65) dX12_slot_58 (by decide) (fun c_58 => ?_) (fun c_58 => ?_)
                  · refine ev_iconst (pc := 65) (v := (-1)) dX12_slot_65 (by decide) ?_
                    simp only [qs0m58_X12_slot_68, if_neg c_58] at hJ_58
                    exact ev_loc hJ_58 cw_le0
                  · refine ev_iconst (pc := 61) (v := 0) dX12_slot_61 (by decide) ?_
                    refine ev_goto (pc := 62) (tgt := 66) dX12_slot_62 (by decide) ?_
                    simp only [qs0m58_X12_slot_68, if_pos c_58] at hJ_58
                    exact ev_loc hJ_58 cw_le0
                exact ev_iret (pc := 66) dX12_slot_66 rfl (by decide) (by decide) (hQ _ _ ⟨rfl, rfl⟩)
            · try simp only [if_neg c_32] at hQ
              refine ev_iconst (pc := 35) (v := (-1)) dX12_slot_35 (by decide) ?_
              exact ev_iret (pc := 36) dX12_slot_36 rfl (by decide) (by decide) (hQ _ _ ⟨rfl, rfl⟩)

def qs0m11_X12_listeners_68 (n : Nat) (I : Nat → Nat → Int32) (A : Nat → Nat → Int32) (J : Nat → Nat → Int64) (t : Bool × Bool) (x1 : Int32) : Int32 := if (px_X12_isHour n I A J t x1) = 0 then (-1) else (A 113 (x1).toNatClampNeg)
def qs0m4_X12_listeners_68 (n : Nat) (I : Nat → Nat → Int32) (A : Nat → Nat → Int32) (J : Nat → Nat → Int64) (t : Bool × Bool) (x1 : Int32) : Int32 := if (I 68 64) = 0 then (-1) else (qs0m11_X12_listeners_68 n I A J t x1)
def pb_X12_listeners_68 (n : Nat) (I : Nat → Nat → Int32) (A : Nat → Nat → Int32) (J : Nat → Nat → Int64) (t : Bool × Bool) (x1 : Int32) : Prop := (¬ (I 68 64) = 0 → (¬ (px_X12_isHour n I A J t x1) = 0 → vp_in x1 24))
def px_X12_listeners_68 (n : Nat) (I : Nat → Nat → Int32) (A : Nat → Nat → Int32) (J : Nat → Nat → Int64) (t : Bool × Bool) (x1 : Int32) : Int32 := (qs0m4_X12_listeners_68 n I A J t x1)
set_option maxRecDepth 100000 in
set_option maxHeartbeats 4000000 in
theorem cv_X12_listeners_68 (g : cw_G) (n : Nat) (I : Nat → Nat → Int32) (A : Nat → Nat → Int32) (J : Nat → Nat → Int64) (t : Bool × Bool) (x1 : Int32) (hb : pb_X12_listeners_68 n I A J t x1) : Cd g mX12_listeners [(.ref (cw_z g + 68)), (.int x1)] (hp g I A J t) (some (.int (px_X12_listeners_68 n I A J t x1))) (hp g I A J t) := by
  unfold pb_X12_listeners_68 at hb
  unfold px_X12_listeners_68
  refine Cd.of rfl (Nat.le_of_ble_eq_true rfl) (ev_gen (fun Q hQ => ?_))
  refine ev_aload_n (pc := 0) dX12_listeners_0 rfl ?_
  refine tv_geti (pc := 1) dX12_listeners_1 fl_X12_375 (by decide) rfl rfl ?_
  have hF_4 := hb
  refine ev_cut (pj := 24) (Lj := [some (.ref (cw_z g + 68)), some (.int x1)]) (stj := [(.int (qs0m4_X12_listeners_68 n I A J t x1))]) (σj := hp g I A J t) ?_ (fun hJ_4 => ?_)
  rotate_left
  · refine ev_if_eq (pc := 4) (tgt := 23) dX12_listeners_4 (by decide) (fun c_4 => ?_) (fun c_4 => ?_)
    · refine ev_iconst (pc := 23) (v := (-1)) dX12_listeners_23 (by decide) ?_
      simp only [qs0m4_X12_listeners_68, if_pos c_4] at hJ_4
      exact ev_loc hJ_4 cw_le0
    · have hb := hF_4 c_4
      refine ev_iload_n (pc := 7) dX12_listeners_7 rfl ?_
      refine ev_Si (pc := 8) dX12_listeners_8 lk_X12_310 cd_X12_isHour ar_X12_isHour ⟨by decide, rfl, rfl⟩ (cv_X12_isHour g n I A J t x1) rfl rfl (Nat.le_of_ble_eq_true rfl) ⟨by decide, by decide⟩ ?_
      have hF_11 := hb
      refine ev_cut (pj := 24) (Lj := [some (.ref (cw_z g + 68)), some (.int x1)]) (stj := [(.int (qs0m11_X12_listeners_68 n I A J t x1))]) (σj := hp g I A J t) ?_ (fun hJ_11 => ?_)
      rotate_left
      · refine ev_if_eq (pc := 11) (tgt := 23) dX12_listeners_11 (by decide) (fun c_11 => ?_) (fun c_11 => ?_)
        · refine ev_iconst (pc := 23) (v := (-1)) dX12_listeners_23 (by decide) ?_
          simp only [qs0m11_X12_listeners_68, if_pos c_11] at hJ_11
          exact ev_loc hJ_11 cw_le0
        · have hb := hF_11 c_11
          refine ev_aload_n (pc := 14) dX12_listeners_14 rfl ?_
          refine tv_getr (pc := 15) (d := 113) dX12_listeners_15 fl_X12_152 (by decide) rfl rfl ?_
          refine ev_iload_n (pc := 18) dX12_listeners_18 rfl ?_
          refine ev_iald (pc := 19) dX12_listeners_19 (by decide) rfl hb ?_
          refine ev_goto (pc := 20) (tgt := 24) dX12_listeners_20 (by decide) ?_
          simp only [qs0m11_X12_listeners_68, if_neg c_11] at hJ_11
          exact ev_loc hJ_11 cw_le0
      simp only [qs0m4_X12_listeners_68, if_neg c_4] at hJ_4
      exact ev_loc hJ_4 cw_le0
  exact ev_iret (pc := 24) dX12_listeners_24 rfl (by decide) (by decide) (hQ _ _ ⟨rfl, rfl⟩)

def pb_X12_count_68 (n : Nat) (I : Nat → Nat → Int32) (A : Nat → Nat → Int32) (J : Nat → Nat → Int64) (t : Bool × Bool) (x1 : Int32) : Prop := (x1 = 5 → vp_in (I 68 18) 2)
def px_X12_count_68 (n : Nat) (I : Nat → Nat → Int32) (A : Nat → Nat → Int32) (J : Nat → Nat → Int64) (t : Bool × Bool) (x1 : Int32) : Int32 := (if x1 = 0 then (I 68 35) else (if x1 = 1 then (I 68 36) else (if x1 = 2 then (I 68 40) else (if x1 = 3 then (I 68 43) else (if x1 = 4 then (I 68 50) else (if x1 = 5 then (A 76 ((I 68 18)).toNatClampNeg) else (if x1 = 6 then (I 68 49) else (if x1 = 7 then (I 68 2) else (-1)))))))))
set_option maxRecDepth 100000 in
set_option maxHeartbeats 4000000 in
theorem cv_X12_count_68 (g : cw_G) (n : Nat) (I : Nat → Nat → Int32) (A : Nat → Nat → Int32) (J : Nat → Nat → Int64) (t : Bool × Bool) (x1 : Int32) (hb : pb_X12_count_68 n I A J t x1) : Cd g mX12_count [(.ref (cw_z g + 68)), (.int x1)] (hp g I A J t) (some (.int (px_X12_count_68 n I A J t x1))) (hp g I A J t) := by
  unfold pb_X12_count_68 at hb
  unfold px_X12_count_68
  refine Cd.of rfl (Nat.le_of_ble_eq_true rfl) (ev_gen (fun Q hQ => ?_))
  refine ev_iload_n (pc := 0) dX12_count_0 rfl ?_
  have hS_5_1 := hb
  by_cases s_1_0 : x1 = 0
  · try simp only [if_pos s_1_0] at hQ
    refine ev_tableIn (pc := 1) (tgt := 48) (off := 47) dX12_count_1 (by rw [s_1_0]; decide) (by rw [s_1_0]; decide) (by rw [s_1_0]; decide) (by decide) ?_
    refine ev_aload_n (pc := 48) dX12_count_48 rfl ?_
    refine tv_geti (pc := 49) dX12_count_49 fl_X12_280 (by decide) rfl rfl ?_
    exact ev_iret (pc := 52) dX12_count_52 rfl (by decide) (by decide) (hQ _ _ ⟨rfl, rfl⟩)
  try simp only [if_neg s_1_0] at hQ
  by_cases s_1_1 : x1 = 1
  · try simp only [if_pos s_1_1] at hQ
    refine ev_tableIn (pc := 1) (tgt := 53) (off := 52) dX12_count_1 (by rw [s_1_1]; decide) (by rw [s_1_1]; decide) (by rw [s_1_1]; decide) (by decide) ?_
    refine ev_aload_n (pc := 53) dX12_count_53 rfl ?_
    refine tv_geti (pc := 54) dX12_count_54 fl_X12_283 (by decide) rfl rfl ?_
    exact ev_iret (pc := 57) dX12_count_57 rfl (by decide) (by decide) (hQ _ _ ⟨rfl, rfl⟩)
  try simp only [if_neg s_1_1] at hQ
  by_cases s_1_2 : x1 = 2
  · try simp only [if_pos s_1_2] at hQ
    refine ev_tableIn (pc := 1) (tgt := 58) (off := 57) dX12_count_1 (by rw [s_1_2]; decide) (by rw [s_1_2]; decide) (by rw [s_1_2]; decide) (by decide) ?_
    refine ev_aload_n (pc := 58) dX12_count_58 rfl ?_
    refine tv_geti (pc := 59) dX12_count_59 fl_X12_289 (by decide) rfl rfl ?_
    exact ev_iret (pc := 62) dX12_count_62 rfl (by decide) (by decide) (hQ _ _ ⟨rfl, rfl⟩)
  try simp only [if_neg s_1_2] at hQ
  by_cases s_1_3 : x1 = 3
  · try simp only [if_pos s_1_3] at hQ
    refine ev_tableIn (pc := 1) (tgt := 63) (off := 62) dX12_count_1 (by rw [s_1_3]; decide) (by rw [s_1_3]; decide) (by rw [s_1_3]; decide) (by decide) ?_
    refine ev_aload_n (pc := 63) dX12_count_63 rfl ?_
    refine tv_geti (pc := 64) dX12_count_64 fl_X12_295 (by decide) rfl rfl ?_
    exact ev_iret (pc := 67) dX12_count_67 rfl (by decide) (by decide) (hQ _ _ ⟨rfl, rfl⟩)
  try simp only [if_neg s_1_3] at hQ
  by_cases s_1_4 : x1 = 4
  · try simp only [if_pos s_1_4] at hQ
    refine ev_tableIn (pc := 1) (tgt := 68) (off := 67) dX12_count_1 (by rw [s_1_4]; decide) (by rw [s_1_4]; decide) (by rw [s_1_4]; decide) (by decide) ?_
    refine ev_aload_n (pc := 68) dX12_count_68 rfl ?_
    refine tv_geti (pc := 69) dX12_count_69 fl_X12_286 (by decide) rfl rfl ?_
    exact ev_iret (pc := 72) dX12_count_72 rfl (by decide) (by decide) (hQ _ _ ⟨rfl, rfl⟩)
  try simp only [if_neg s_1_4] at hQ
  by_cases s_1_5 : x1 = 5
  · try simp only [if_pos s_1_5] at hQ
    have hb := hS_5_1 s_1_5
    refine ev_tableIn (pc := 1) (tgt := 73) (off := 72) dX12_count_1 (by rw [s_1_5]; decide) (by rw [s_1_5]; decide) (by rw [s_1_5]; decide) (by decide) ?_
    refine ev_aload_n (pc := 73) dX12_count_73 rfl ?_
    refine tv_getr (pc := 74) (d := 76) dX12_count_74 fl_X12_40 (by decide) rfl rfl ?_
    refine ev_aload_n (pc := 77) dX12_count_77 rfl ?_
    refine tv_geti (pc := 78) dX12_count_78 fl_X12_245 (by decide) rfl rfl ?_
    refine ev_iald (pc := 81) dX12_count_81 (by decide) rfl hb ?_
    exact ev_iret (pc := 82) dX12_count_82 rfl (by decide) (by decide) (hQ _ _ ⟨rfl, rfl⟩)
  try simp only [if_neg s_1_5] at hQ
  by_cases s_1_6 : x1 = 6
  · try simp only [if_pos s_1_6] at hQ
    refine ev_tableIn (pc := 1) (tgt := 83) (off := 82) dX12_count_1 (by rw [s_1_6]; decide) (by rw [s_1_6]; decide) (by rw [s_1_6]; decide) (by decide) ?_
    refine ev_aload_n (pc := 83) dX12_count_83 rfl ?_
    refine tv_geti (pc := 84) dX12_count_84 fl_X12_301 (by decide) rfl rfl ?_
    exact ev_iret (pc := 87) dX12_count_87 rfl (by decide) (by decide) (hQ _ _ ⟨rfl, rfl⟩)
  try simp only [if_neg s_1_6] at hQ
  by_cases s_1_7 : x1 = 7
  · try simp only [if_pos s_1_7] at hQ
    refine ev_tableIn (pc := 1) (tgt := 88) (off := 87) dX12_count_1 (by rw [s_1_7]; decide) (by rw [s_1_7]; decide) (by rw [s_1_7]; decide) (by decide) ?_
    refine ev_aload_n (pc := 88) dX12_count_88 rfl ?_
    refine tv_geti (pc := 89) dX12_count_89 fl_X12_177 (by decide) rfl rfl ?_
    exact ev_iret (pc := 92) dX12_count_92 rfl (by decide) (by decide) (hQ _ _ ⟨rfl, rfl⟩)
  try simp only [if_neg s_1_7] at hQ
  refine ev_tableOut (pc := 1) (tgt := 93) dX12_count_1 (by simp only [← Int32.toInt_inj, Int32.reduceToInt] at s_1_0 s_1_1 s_1_2 s_1_3 s_1_4 s_1_5 s_1_6 s_1_7; omega) (by decide) ?_
  refine ev_iconst (pc := 93) (v := (-1)) dX12_count_93 (by decide) ?_
  exact ev_iret (pc := 94) dX12_count_94 rfl (by decide) (by decide) (hQ _ _ ⟨rfl, rfl⟩)
