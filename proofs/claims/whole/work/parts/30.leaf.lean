set_option maxRecDepth 100000 in
theorem cv_X11_isDay (g : cw_G) (σ : cw_H) (x : Int32) : Cd g mX11_isDay [.int x] σ (some (.int (cw_b (0 ≤ x ∧ x < 3600)))) σ := by
  refine Cd.of rfl (by decide) ?_
  refine ev_iload_n (pc := 0) dX11_isDay_0 rfl ?_
  refine ev_if_lt (pc := 1) (tgt := 15) dX11_isDay_1 (by decide) (fun c_1 => ?_) (fun c_1 => ?_)
  · refine ev_iconst (pc := 15) (v := 0) dX11_isDay_15 (by decide) ?_
    exact ev_zret (pc := 16) dX11_isDay_16 rfl rfl (by decide) (by decide) ⟨by simp [cw_b, *], rfl⟩
  · refine ev_iload_n (pc := 4) dX11_isDay_4 rfl ?_
    refine ev_sipush (pc := 5) (v := 3600) dX11_isDay_5 (by decide) ?_
    refine ev_icmp_ge (pc := 8) (tgt := 15) dX11_isDay_8 (by decide) (fun c_8 => ?_) (fun c_8 => ?_)
    · refine ev_iconst (pc := 15) (v := 0) dX11_isDay_15 (by decide) ?_
      exact ev_zret (pc := 16) dX11_isDay_16 rfl rfl (by decide) (by decide) ⟨by simp [cw_b, *], rfl⟩
    · refine ev_iconst (pc := 11) (v := 1) dX11_isDay_11 (by decide) ?_
      refine ev_goto (pc := 12) (tgt := 16) dX11_isDay_12 (by decide) ?_
      exact ev_zret (pc := 16) dX11_isDay_16 rfl rfl (by decide) (by decide) ⟨by simp [cw_b, *], rfl⟩

set_option maxRecDepth 100000 in
theorem cv_X9_has_1 (g : cw_G) (I A : Nat → Nat → Int32) (J : Nat → Nat → Int64) (t : Bool × Bool) (x : Int32) : Cd g mX9_has [.ref (cw_z g + 1), .int x] (hp g I A J t) (some (.int (cw_b (0 ≤ x ∧ x < I 1 3)))) (hp g I A J t) := by
  refine Cd.of rfl (by decide) ?_
  refine ev_iload_n (pc := 0) dX9_has_0 rfl ?_
  refine ev_if_lt (pc := 1) (tgt := 16) dX9_has_1 (by decide) (fun c_1 => ?_) (fun c_1 => ?_)
  · refine ev_iconst (pc := 16) (v := 0) dX9_has_16 (by decide) ?_
    exact ev_zret (pc := 17) dX9_has_17 rfl rfl (by decide) (by decide) ⟨by simp [cw_b, *], rfl⟩
  · refine ev_iload_n (pc := 4) dX9_has_4 rfl ?_
    refine ev_aload_n (pc := 5) dX9_has_5 rfl ?_
    refine tv_geti (pc := 6) dX9_has_6 fl_X9_9 (by decide) rfl rfl ?_
    refine ev_icmp_ge (pc := 9) (tgt := 16) dX9_has_9 (by decide) (fun c_9 => ?_) (fun c_9 => ?_)
    · refine ev_iconst (pc := 16) (v := 0) dX9_has_16 (by decide) ?_
      exact ev_zret (pc := 17) dX9_has_17 rfl rfl (by decide) (by decide) ⟨by simp [cw_b, *], rfl⟩
    · refine ev_iconst (pc := 12) (v := 1) dX9_has_12 (by decide) ?_
      refine ev_goto (pc := 13) (tgt := 17) dX9_has_13 (by decide) ?_
      exact ev_zret (pc := 17) dX9_has_17 rfl rfl (by decide) (by decide) ⟨by simp [cw_b, *], rfl⟩

set_option maxRecDepth 100000 in
theorem cv_X9_has_5 (g : cw_G) (I A : Nat → Nat → Int32) (J : Nat → Nat → Int64) (t : Bool × Bool) (x : Int32) : Cd g mX9_has [.ref (cw_z g + 5), .int x] (hp g I A J t) (some (.int (cw_b (0 ≤ x ∧ x < I 5 3)))) (hp g I A J t) := by
  refine Cd.of rfl (by decide) ?_
  refine ev_iload_n (pc := 0) dX9_has_0 rfl ?_
  refine ev_if_lt (pc := 1) (tgt := 16) dX9_has_1 (by decide) (fun c_1 => ?_) (fun c_1 => ?_)
  · refine ev_iconst (pc := 16) (v := 0) dX9_has_16 (by decide) ?_
    exact ev_zret (pc := 17) dX9_has_17 rfl rfl (by decide) (by decide) ⟨by simp [cw_b, *], rfl⟩
  · refine ev_iload_n (pc := 4) dX9_has_4 rfl ?_
    refine ev_aload_n (pc := 5) dX9_has_5 rfl ?_
    refine tv_geti (pc := 6) dX9_has_6 fl_X9_9 (by decide) rfl rfl ?_
    refine ev_icmp_ge (pc := 9) (tgt := 16) dX9_has_9 (by decide) (fun c_9 => ?_) (fun c_9 => ?_)
    · refine ev_iconst (pc := 16) (v := 0) dX9_has_16 (by decide) ?_
      exact ev_zret (pc := 17) dX9_has_17 rfl rfl (by decide) (by decide) ⟨by simp [cw_b, *], rfl⟩
    · refine ev_iconst (pc := 12) (v := 1) dX9_has_12 (by decide) ?_
      refine ev_goto (pc := 13) (tgt := 17) dX9_has_13 (by decide) ?_
      exact ev_zret (pc := 17) dX9_has_17 rfl rfl (by decide) (by decide) ⟨by simp [cw_b, *], rfl⟩
