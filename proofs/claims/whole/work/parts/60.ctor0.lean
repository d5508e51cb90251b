/-! rows of constructors, with names -/
section EvK
variable {g : cw_G} {Y Y2 : cw_M} {ce sl pc idx ci N n c k n2 ce2 sl2 : Nat} {L : List (Option Value)} {st st0 As : List Value} {Q : Option Value → cw_H → Prop} {K K2 : Nat → Nat × Nat} {V V2 : Nat → Nat → Value} {A A2 : Nat → Nat → Int32} {J J2 : Nat → Nat → Int64} {σ τ : cw_H}
theorem tn_new {C : String} {T : u_T} {ty : Nat → FieldType} (hd : decode Y.2.1 pc = .ok (.new idx, 3)) (hk : cw_KC ci C T N ty) (h1 : Cond.classLink Y.1.cls idx C ∈ cw_tbl) (h2 : Cond.instantiable C N ∈ cw_tbl) (h3 : Cond.initialized C ∈ cw_tbl) (hce : ce + 1 ≤ Y.2.2.2.2.cells) (hsl : sl + N ≤ Y.2.2.2.2.slots)
    (e1 : n + 1 = n2) (e2 : ce + 1 = ce2) (e3 : sl + N = sl2) (e4 : cw_kp K n (ci, 0) = K2) (e5 : cw_kp V n (fun j => defaultValue (ty j)) = V2) (kk : Ev g Y ce2 sl2 (pc + 3) L (.ref (cw_z g + n) :: st) (n2, K2, V2, A, J) Q) : Ev g Y ce sl pc L st (n, K, V, A, J) Q := by
  subst e1 e2 e3 e4 e5
  exact ev_new hd hk h1 h2 h3 hce hsl kk
theorem tn_newa {at_ : ArrayType} {x : Int32} (hd : decode Y.2.1 pc = .ok (.newarray at_, 2)) (hat : newarray.typeOf at_ = cw_ty k) (h13 : 13 ≤ k) (hdv : defaultValue (cw_ty k) = if k = 15 then .long 0 else .int 0) (harr : Cond.arrayClass (newarray.typeOf at_) ∈ cw_tbl) (h0 : ¬ x < 0) (hN : x.toNatClampNeg = N) (hbytes : N * componentBytes (newarray.typeOf at_) ≤ 536870912) (hce : ce + 1 ≤ Y.2.2.2.2.cells) (hsl : sl + N ≤ Y.2.2.2.2.slots)
    (e1 : n + 1 = n2) (e2 : ce + 1 = ce2) (e3 : sl + N = sl2) (e4 : cw_kp K n (k, N) = K2) (e5 : cw_kp A n (fun _ => 0) = A2) (e6 : cw_kp J n (fun _ => 0) = J2) (kk : Ev g Y ce2 sl2 (pc + 2) L (.ref (cw_z g + n) :: st) (n2, K2, V, A2, J2) Q) : Ev g Y ce sl pc L (.int x :: st) (n, K, V, A, J) Q := by
  subst e1 e2 e3 e4 e5 e6
  exact ev_newa hd hat h13 hdv harr h0 hN hbytes hce hsl kk
theorem tn_put {t0 : FieldType} {v : Value} (hd : decode Y.2.1 pc = .ok (.putfield idx, 3)) (hf : cw_FP Y.1.cls idx ci k t0) (hn : c < n) (hK : (K c).1 = ci) (h1 : narrow t0 v = v) (h2 : fits t0 v = true) (e : cw_u V c k v = V2) (kk : Ev g Y ce sl (pc + 3) L st (n, K, V2, A, J) Q) : Ev g Y ce sl pc L (v :: .ref (cw_z g + c) :: st) (n, K, V, A, J) Q := ev_put hd hf hn hK h1 h2 (e ▸ kk)
theorem tn_putF {t0 : FieldType} {v : Value} (hd : decode Y.2.1 pc = .ok (.putfield idx, 3)) (hf : cw_FI Y.1.cls idx ci k t0) (hin2 : Y.1.name = "<init>") (hn : c < n) (hK : (K c).1 = ci) (h1 : narrow t0 v = v) (h2 : fits t0 v = true) (e : cw_u V c k v = V2) (kk : Ev g Y ce sl (pc + 3) L st (n, K, V2, A, J) Q) : Ev g Y ce sl pc L (v :: .ref (cw_z g + c) :: st) (n, K, V, A, J) Q := ev_putF hd hf hin2 hn hK h1 h2 (e ▸ kk)
theorem tn_iast {i x : Int32} (hd : decode Y.2.1 pc = .ok (.iastore, 1)) (hn : c < n) (hK : K c = (14, N)) (hi : vp_in i N) (he : cw_u A c i.toNatClampNeg x = A2) (kk : Ev g Y ce sl (pc + 1) L st (n, K, V, A2, J) Q) : Ev g Y ce sl pc L (.int x :: .int i :: .ref (cw_z g + c) :: st) (n, K, V, A, J) Q := ev_iast hd hn hK hi (he ▸ kk)
theorem tn_last {i : Int32} {x : Int64} (hd : decode Y.2.1 pc = .ok (.lastore, 1)) (hn : c < n) (hK : K c = (15, N)) (hi : vp_in i N) (he : cw_u J c i.toNatClampNeg x = J2) (kk : Ev g Y ce sl (pc + 1) L st (n, K, V, A, J2) Q) : Ev g Y ce sl pc L (.long x :: .int i :: .ref (cw_z g + c) :: st) (n, K, V, A, J) Q := ev_last hd hn hK hi (he ▸ kk)
theorem tn_callI {b : Nat} (hd : decode Y.2.1 pc = .ok (.invokespecial idx, 3)) (hl : cw_LI Y.1.cls idx Y2) (h2 : cw_cd Y2) (ha : cw_ar Y2 k) (hi : Y2.1.name = "<init>") (hv : Y2.2.2.2.1 = none)
    (hR : Y2.2.2.2.2.frames + 1 ≤ Y.2.2.2.2.frames ∧ 8 + (Y2.2.2.1 + 11) + Y2.2.2.2.2.locals ≤ Y.2.2.2.2.locals) (hM : Cd g Y2 (.ref b :: As) σ none τ)
    (hA : As.length = k) (hst : st0 = As.reverse ++ .ref b :: st) (hW : (st.map fun v => v.category).sum ≤ 8) (hf : ce + Y2.2.2.2.2.cells ≤ Y.2.2.2.2.cells ∧ sl + Y2.2.2.2.2.slots ≤ Y.2.2.2.2.slots) (e2 : ce + Y2.2.2.2.2.cells = ce2) (e3 : sl + Y2.2.2.2.2.slots = sl2)
    (kk : Ev g Y ce2 sl2 (pc + 3) L st τ Q) : Ev g Y ce sl pc L st0 σ Q := by
  subst e2 e3
  exact ev_callI hd hl h2 ha hi hv hR hM hA hst hW hf (fun r' τ' h => by rw [h.1, h.2]; exact kk)
theorem tn_callIN {b : Nat} (hd : decode Y.2.1 pc = .ok (.invokespecial idx, 3)) (hl : cw_NI Y.1.cls idx Y2) (h2 : cw_cd Y2) (ha : cw_ar Y2 k) (hi : Y2.1.name = "<init>") (hv : Y2.2.2.2.1 = none)
    (hR : Y2.2.2.2.2.frames + 1 ≤ Y.2.2.2.2.frames ∧ 8 + (Y2.2.2.1 + 11) + Y2.2.2.2.2.locals ≤ Y.2.2.2.2.locals) (hM : Cd g Y2 (.ref b :: As) σ none τ)
    (hA : As.length = k) (hst : st0 = As.reverse ++ .ref b :: st) (hW : (st.map fun v => v.category).sum ≤ 8) (hf : ce + Y2.2.2.2.2.cells ≤ Y.2.2.2.2.cells ∧ sl + Y2.2.2.2.2.slots ≤ Y.2.2.2.2.slots) (e2 : ce + Y2.2.2.2.2.cells = ce2) (e3 : sl + Y2.2.2.2.2.slots = sl2)
    (kk : Ev g Y ce2 sl2 (pc + 3) L st τ Q) : Ev g Y ce sl pc L st0 σ Q := by
  subst e2 e3
  exact ev_callIN hd hl h2 ha hi hv hR hM hA hst hW hf (fun r' τ' h => by rw [h.1, h.2]; exact kk)
end EvK
set_option maxRecDepth 100000 in
set_option maxHeartbeats 4000000 in
theorem cs_X12_more (g : cw_G) (σ : cw_H) (n : Nat) (I : Nat → Nat → Int32) (A : Nat → Nat → Int32) (J : Nat → Nat → Int64) (t : Bool × Bool) (x1 : Int64) (x2 : Int32) : Cd g mX12_more [(.long x1), (.int x2)] σ (some (.long (px_X12_more n I A J t x1 x2))) σ := by
  unfold px_X12_more
  refine Cd.of rfl (Nat.le_of_ble_eq_true rfl) (ev_gen (fun Q hQ => ?_))
  refine ev_iload_n (pc := 0) dX12_more_0 rfl ?_
  refine ev_cut (pj := 21) (Lj := [some (.long x1), none, some (.int x2)]) (stj := [(.long (qs0m1_X12_more n I A J t x1 x2))]) (σj := σ) ?_ (fun hJ_1 => ?_)
  rotate_left
  · refine ev_if_ne (pc := 1) (tgt := 8) dX12_more_1 (by decide) (fun c_1 => ?_) (fun c_1 => ?_)
    · refine ev_ldc2 (pc := 8) dX12_more_8 ks_X12_187 ?_
      refine ev_lload_n (pc := 11) dX12_more_11 rfl ?_
      refine ev_lmul (pc := 12) dX12_more_12 ?_
      refine ev_iload_n (pc := 13) dX12_more_13 rfl ?_
      refine ev_bipush (pc := 14) (v := 97) dX12_more_14 (by decide) ?_
      refine ev_isub (pc := 16) dX12_more_16 ?_
      refine ev_iconst (pc := 17) (v := 1) dX12_more_17 (by decide) ?_
      refine ev_iadd (pc := 18) dX12_more_18 ?_
      refine ev_i2l (pc := 19) dX12_more_19 ?_
      refine ev_ladd (pc := 20) dX12_more_20 ?_
      simp only [qs0m1_X12_more, if_neg c_1] at hJ_1
      exact ev_loc hJ_1 cw_le0
    · refine ev_lload_n (pc := 4) dX12_more_4 rfl ?_
      refine ev_goto (pc := 5) (tgt := 21) dX12_more_5 (by decide) ?_
      simp only [qs0m1_X12_more, if_pos c_1] at hJ_1
      exact ev_loc hJ_1 cw_le0
  exact ev_lret (pc := 21) dX12_more_21 rfl (by decide) (by decide) (hQ _ _ ⟨rfl, rfl⟩)

set_option maxRecDepth 100000 in
set_option maxHeartbeats 4000000 in
theorem cs_X12_word (g : cw_G) (σ : cw_H) (n : Nat) (I : Nat → Nat → Int32) (A : Nat → Nat → Int32) (J : Nat → Nat → Int64) (t : Bool × Bool) (x1 : Int32) (x2 : Int32) (x3 : Int32) (x4 : Int32) (x5 : Int32) (x6 : Int32) : Cd g mX12_word [(.int x1), (.int x2), (.int x3), (.int x4), (.int x5), (.int x6)] σ (some (.long (px_X12_word n I A J t x1 x2 x3 x4 x5 x6))) σ := by
  unfold px_X12_word
  refine Cd.of rfl (Nat.le_of_ble_eq_true rfl) (ev_gen (fun Q hQ => ?_))
  refine ev_lconst (pc := 0) (v := 0) dX12_word_0 (by decide) ?_
  refine ev_iload_n (pc := 1) dX12_word_1 rfl ?_
  refine ev_Sl (pc := 2) dX12_word_2 lk_X12_189 cd_X12_more ar_X12_more ⟨by decide, rfl, rfl⟩ (cs_X12_more g σ n I A J t 0 x1) rfl rfl (Nat.le_of_ble_eq_true rfl) ⟨by decide, by decide⟩ ?_
  refine ev_iload_n (pc := 5) dX12_word_5 rfl ?_
  refine ev_Sl (pc := 6) dX12_word_6 lk_X12_189 cd_X12_more ar_X12_more ⟨by decide, rfl, rfl⟩ (cs_X12_more g σ n I A J t (px_X12_more n I A J t 0 x1) x2) rfl rfl (Nat.le_of_ble_eq_true rfl) ⟨by decide, by decide⟩ ?_
  refine ev_iload_n (pc := 9) dX12_word_9 rfl ?_
  refine ev_Sl (pc := 10) dX12_word_10 lk_X12_189 cd_X12_more ar_X12_more ⟨by decide, rfl, rfl⟩ (cs_X12_more g σ n I A J t (px_X12_more n I A J t (px_X12_more n I A J t 0 x1) x2) x3) rfl rfl (Nat.le_of_ble_eq_true rfl) ⟨by decide, by decide⟩ ?_
  refine ev_iload_n (pc := 13) dX12_word_13 rfl ?_
  refine ev_Sl (pc := 14) dX12_word_14 lk_X12_189 cd_X12_more ar_X12_more ⟨by decide, rfl, rfl⟩ (cs_X12_more g σ n I A J t (px_X12_more n I A J t (px_X12_more n I A J t (px_X12_more n I A J t 0 x1) x2) x3) x4) rfl rfl (Nat.le_of_ble_eq_true rfl) ⟨by decide, by decide⟩ ?_
  refine ev_iload (pc := 17) dX12_word_17 rfl ?_
  refine ev_Sl (pc := 19) dX12_word_19 lk_X12_189 cd_X12_more ar_X12_more ⟨by decide, rfl, rfl⟩ (cs_X12_more g σ n I A J t (px_X12_more n I A J t (px_X12_more n I A J t (px_X12_more n I A J t (px_X12_more n I A J t 0 x1) x2) x3) x4) x5) rfl rfl (Nat.le_of_ble_eq_true rfl) ⟨by decide, by decide⟩ ?_
  refine ev_iload (pc := 22) dX12_word_22 rfl ?_
  refine ev_Sl (pc := 24) dX12_word_24 lk_X12_189 cd_X12_more ar_X12_more ⟨by decide, rfl, rfl⟩ (cs_X12_more g σ n I A J t (px_X12_more n I A J t (px_X12_more n I A J t (px_X12_more n I A J t (px_X12_more n I A J t (px_X12_more n I A J t 0 x1) x2) x3) x4) x5) x6) rfl rfl (Nat.le_of_ble_eq_true rfl) ⟨by decide, by decide⟩ ?_
  exact ev_lret (pc := 27) dX12_word_27 rfl (by decide) (by decide) (hQ _ _ ⟨rfl, rfl⟩)

theorem cv_wordC (g : cw_G) (σ : cw_H) (a b c d e f : Int32) (v : Int64) (h : px_X12_word 0 (fun _ _ => 0) (fun _ _ => 0) (fun _ _ => 0) (false, false) a b c d e f = v) : Cd g mX12_word [.int a, .int b, .int c, .int d, .int e, .int f] σ (some (.long v)) σ := h ▸ cs_X12_word g σ 0 (fun _ _ => 0) (fun _ _ => 0) (fun _ _ => 0) (false, false) a b c d e f
