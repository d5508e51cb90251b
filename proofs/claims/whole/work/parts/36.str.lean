set_option maxRecDepth 100000 in
theorem sl_cs : Cond.fieldLink RJ0 38 "java/lang/String" "COMPACT_STRINGS" "Z" ∈ cw_tbl := (cw_mem (List.mem_append_right _ (List.mem_of_getElem? (i := 428) (by rfl))) rfl)
set_option maxRecDepth 100000 in
theorem sl_va : Cond.fieldLink RJ0 9 "java/lang/String" "value" "[B" ∈ cw_tbl := (cw_mem (List.mem_append_right _ (List.mem_of_getElem? (i := 1453) (by rfl))) rfl)
set_option maxRecDepth 100000 in
theorem sl_co : Cond.fieldLink RJ0 15 "java/lang/String" "coder" "B" ∈ cw_tbl := (cw_mem (List.mem_append_right _ (List.mem_of_getElem? (i := 1454) (by rfl))) rfl)
set_option maxRecDepth 100000 in
theorem sl_fo : Cond.fieldLink RJ0 1053 "jdk/internal/util/Preconditions" "SIOOBE_FORMATTER" "Ljava/util/function/BiFunction;" ∈ cw_tbl := (cw_mem (List.mem_append_right _ (List.mem_of_getElem? (i := 448) (by rfl))) rfl)
set_option maxRecDepth 100000 in
theorem sl_ai : Cond.fieldLink RX9 57 "WaveHouse$Spots" "AIMS" "[I" ∈ cw_tbl := (cw_mem (List.mem_append_right _ (List.mem_of_getElem? (i := 682) (by rfl))) rfl)
/-! the text of words: what String's own methods answer on it -/
def cw_ch (i : Int32) : Int32 := cw_wb.getD i.toNatClampNeg 0
theorem cw_ch_ok : ∀ j, j < 120 → ((cw_wb.getD j 0 &&& 255).toUInt32 % 65536).toInt32 = cw_wb.getD j 0 ∧ narrow .char (.int (cw_wb.getD j 0)) = .int (cw_wb.getD j 0) := by decide +kernel
section EvS
variable (g : cw_G) (σ : cw_H)
set_option maxRecDepth 100000 in
theorem cv_isLatin1 : Cd g mJ0_isLatin1_aae02 [.ref (cw_ad g).2.1] σ (some (.int 1)) σ := by
  refine Cd.of rfl (Nat.le_of_ble_eq_true rfl) (ev_gen (fun Q hQ => ?_))
  refine ev_gets (pc := 0) (v := .int 1) (fun s h => h.2.2.1) dJ0_isLatin1_aae02_0 sl_cs ?_
  refine ev_if_eq (pc := 3) (tgt := 17) dJ0_isLatin1_aae02_3 (by decide) (fun c => absurd c (by decide)) (fun c => ?_)
  refine ev_aload_n (pc := 6) dJ0_isLatin1_aae02_6 rfl ?_
  refine ev_scod (pc := 7) dJ0_isLatin1_aae02_7 sl_co ?_
  refine ev_if_ne (pc := 10) (tgt := 17) dJ0_isLatin1_aae02_10 (by decide) (fun c => absurd rfl c) (fun c => ?_)
  refine ev_iconst (pc := 13) (v := 1) dJ0_isLatin1_aae02_13 (by decide) ?_
  refine ev_goto (pc := 14) (tgt := 18) dJ0_isLatin1_aae02_14 (by decide) ?_
  exact ev_zret (pc := 18) dJ0_isLatin1_aae02_18 rfl rfl (by decide) (by decide) (hQ _ _ ⟨rfl, rfl⟩)
set_option maxRecDepth 100000 in
theorem cv_coder : Cd g mJ0_coder_7d493 [.ref (cw_ad g).2.1] σ (some (.int 0)) σ := by
  refine Cd.of rfl (Nat.le_of_ble_eq_true rfl) (ev_gen (fun Q hQ => ?_))
  refine ev_gets (pc := 0) (v := .int 1) (fun s h => h.2.2.1) dJ0_coder_7d493_0 sl_cs ?_
  refine ev_if_eq (pc := 3) (tgt := 13) dJ0_coder_7d493_3 (by decide) (fun c => absurd c (by decide)) (fun c => ?_)
  refine ev_aload_n (pc := 6) dJ0_coder_7d493_6 rfl ?_
  refine ev_scod (pc := 7) dJ0_coder_7d493_7 sl_co ?_
  refine ev_goto (pc := 10) (tgt := 14) dJ0_coder_7d493_10 (by decide) ?_
  exact ev_zret (pc := 14) dJ0_coder_7d493_14 rfl rfl (by decide) (by decide) (hQ _ _ ⟨rfl, rfl⟩)
set_option maxRecDepth 100000 in
theorem cv_slength : Cd g mJ0_length_8abf5 [.ref (cw_ad g).2.1] σ (some (.int 120)) σ := by
  refine Cd.of rfl (Nat.le_of_ble_eq_true rfl) (ev_gen (fun Q hQ => ?_))
  refine ev_aload_n (pc := 0) dJ0_length_8abf5_0 rfl ?_
  refine ev_sval (pc := 1) dJ0_length_8abf5_1 sl_va ?_
  refine ev_slen (pc := 4) dJ0_length_8abf5_4 ?_
  refine ev_aload_n (pc := 5) dJ0_length_8abf5_5 rfl ?_
  refine ev_VS (pc := 6) dJ0_length_8abf5_6 lk_J0_335 cd_J0_coder_7d493 ar_J0_coder_7d493 ⟨by decide, rfl, rfl⟩ rfl (cv_coder g σ) rfl rfl (Nat.le_of_ble_eq_true rfl) ⟨by decide, by decide⟩ ?_
  refine ev_ishr (pc := 9) dJ0_length_8abf5_9 ?_
  exact ev_iret (pc := 10) dJ0_length_8abf5_10 rfl (by decide) (by decide) (hQ _ _ ⟨by decide +kernel, rfl⟩)
set_option maxRecDepth 100000 in
theorem cv_pcheck (v : Value) (hv : v = .null ∨ ∃ a, v = .ref a) (i N : Int32) (h0 : ¬ i < 0) (h1 : i < N) : Cd g mJ3_checkIndex_8e157 [.int i, .int N, v] σ (some (.int i)) σ := by
  rcases hv with rfl | ⟨a, rfl⟩
  all_goals
    refine Cd.of rfl (Nat.le_of_ble_eq_true rfl) (ev_gen (fun Q hQ => ?_))
    refine ev_iload_n (pc := 0) dJ3_checkIndex_8e157_0 rfl ?_
    refine ev_if_lt (pc := 1) (tgt := 9) dJ3_checkIndex_8e157_1 (by decide) (fun c => absurd c h0) (fun c => ?_)
    refine ev_iload_n (pc := 4) dJ3_checkIndex_8e157_4 rfl ?_
    refine ev_iload_n (pc := 5) dJ3_checkIndex_8e157_5 rfl ?_
    refine ev_icmp_lt (pc := 6) (tgt := 16) dJ3_checkIndex_8e157_6 (by decide) (fun c => ?_) (fun c => absurd h1 c)
    refine ev_iload_n (pc := 16) dJ3_checkIndex_8e157_16 rfl ?_
    exact ev_iret (pc := 17) dJ3_checkIndex_8e157_17 rfl (by decide) (by decide) (hQ _ _ ⟨rfl, rfl⟩)
set_option maxRecDepth 100000 in
theorem cv_scheck (i N : Int32) (h0 : ¬ i < 0) (h1 : i < N) : Cd g mJ0_checkIndex_df160 [.int i, .int N] σ none σ := by
  refine Cd.of rfl (Nat.le_of_ble_eq_true rfl) (ev_gen (fun Q hQ => ?_))
  refine ev_iload_n (pc := 0) dJ0_checkIndex_df160_0 rfl ?_
  refine ev_iload_n (pc := 1) dJ0_checkIndex_df160_1 rfl ?_
  refine ev_getsq (pc := 2) (fun s h => h.2.2.2.2.2) dJ0_checkIndex_df160_2 sl_fo (fun v hv => ?_)
  refine ev_Si (pc := 5) dJ0_checkIndex_df160_5 lk_J0_1059 cd_J3_checkIndex_8e157 ar_J3_checkIndex_8e157 ⟨by decide, rfl, rfl⟩ (cv_pcheck g σ v hv i N h0 h1) rfl rfl (Nat.le_of_ble_eq_true rfl) ⟨by decide, by decide⟩ ?_
  refine ev_pop (pc := 8) dJ0_checkIndex_df160_8 rfl ?_
  exact ev_vret (pc := 9) dJ0_checkIndex_df160_9 rfl (by decide) (by decide) (hQ _ _ ⟨rfl, rfl⟩)
set_option maxRecDepth 100000 in
theorem cv_lcharAt (i : Int32) (hi : vp_in i 120) : Cd g mJ1_charAt_3b067 [.ref (cw_ad g).2.2, .int i] σ (some (.int (cw_ch i))) σ := by
  obtain ⟨j, hj, rfl⟩ := vp_in_of hi (by decide)
  have e1 : (nI j).toNatClampNeg = j := nI_clamp (by omega)
  obtain ⟨k1, k2⟩ := cw_ch_ok j hj
  refine Cd.of rfl (Nat.le_of_ble_eq_true rfl) (ev_gen (fun Q hQ => ?_))
  refine ev_iload_n (pc := 0) dJ1_charAt_3b067_0 rfl ?_
  refine ev_aload_n (pc := 1) dJ1_charAt_3b067_1 rfl ?_
  refine ev_slen (pc := 2) dJ1_charAt_3b067_2 ?_
  refine ev_Sv (pc := 3) dJ1_charAt_3b067_3 lk_J1_9 cd_J0_checkIndex_df160 ar_J0_checkIndex_df160 ⟨by decide, rfl, rfl⟩ (cv_scheck g σ (nI j) 120 (nI_pos (by omega)) (nI_lt (a := j) (b := 120) hj (by decide))) rfl rfl (Nat.le_of_ble_eq_true rfl) ⟨by decide, by decide⟩ ?_
  refine ev_aload_n (pc := 6) dJ1_charAt_3b067_6 rfl ?_
  refine ev_iload_n (pc := 7) dJ1_charAt_3b067_7 rfl ?_
  refine ev_sbald (pc := 8) dJ1_charAt_3b067_8 hi ?_
  refine ev_sipush (pc := 9) (v := 255) dJ1_charAt_3b067_9 (by decide) ?_
  refine ev_iand (pc := 12) dJ1_charAt_3b067_12 ?_
  refine ev_i2c (pc := 13) dJ1_charAt_3b067_13 ?_
  rw [e1, k1]
  exact ev_zret (pc := 14) dJ1_charAt_3b067_14 rfl k2 (by decide) (by decide) (hQ _ _ ⟨by rw [cw_ch, e1], rfl⟩)
set_option maxRecDepth 100000 in
theorem cv_scharAt (i : Int32) (hi : vp_in i 120) : Cd g mJ0_charAt_5068e [.ref (cw_ad g).2.1, .int i] σ (some (.int (cw_ch i))) σ := by
  obtain ⟨j, hj, e⟩ := vp_in_of hi (by decide)
  have e1 : i.toNatClampNeg = j := by rw [e]; exact nI_clamp (by omega)
  obtain ⟨k1, k2⟩ := cw_ch_ok j hj
  refine Cd.of rfl (Nat.le_of_ble_eq_true rfl) (ev_gen (fun Q hQ => ?_))
  refine ev_aload_n (pc := 0) dJ0_charAt_5068e_0 rfl ?_
  refine ev_VS (pc := 1) dJ0_charAt_5068e_1 lk_J0_492 cd_J0_isLatin1_aae02 ar_J0_isLatin1_aae02 ⟨by decide, rfl, rfl⟩ rfl (cv_isLatin1 g σ) rfl rfl (Nat.le_of_ble_eq_true rfl) ⟨by decide, by decide⟩ ?_
  refine ev_if_eq (pc := 4) (tgt := 16) dJ0_charAt_5068e_4 (by decide) (fun c => absurd c (by decide)) (fun c => ?_)
  refine ev_aload_n (pc := 7) dJ0_charAt_5068e_7 rfl ?_
  refine ev_sval (pc := 8) dJ0_charAt_5068e_8 sl_va ?_
  refine ev_iload_n (pc := 11) dJ0_charAt_5068e_11 rfl ?_
  refine ev_Si (pc := 12) dJ0_charAt_5068e_12 lk_J0_495 cd_J1_charAt_3b067 ar_J1_charAt_3b067 ⟨by decide, rfl, rfl⟩ (cv_lcharAt g σ i hi) rfl rfl (Nat.le_of_ble_eq_true rfl) ⟨by decide, by decide⟩ ?_
  exact ev_zret (pc := 15) dJ0_charAt_5068e_15 rfl (by rw [cw_ch, e1]; exact k2) (by decide) (by decide) (hQ _ _ ⟨rfl, rfl⟩)
end EvS
/-! the scanner gets its text; the treaty at hand and the draft change places -/
theorem cw_getD_set {α : Type} (l : List α) {i a : Nat} (x d : α) (h : a ≠ i) : (l.set i x).getD a d = l.getD a d := by
  rw [List.getD_eq_getElem?_getD, List.getD_eq_getElem?_getD, List.getElem?_set_ne (fun q => h q.symm)]
theorem cw_R0_text (t : Bool × Bool) (a b : Nat) (h : ¬ (a = 34 ∧ b = 0)) : cw_R0 (t.1, true) a b = cw_R0 t a b := by
  by_cases ha : a = 34
  · subst ha
    have hb : b ≠ 0 := fun e => h ⟨rfl, e⟩
    obtain ⟨b', rfl⟩ := Nat.exists_eq_succ_of_ne_zero hb
    rfl
  · unfold cw_R0
    have e : (cw_Rt (t.1, true)).set 34 [] = (cw_Rt t).set 34 [] := rfl
    rw [← cw_getD_set (cw_Rt (t.1, true)) [] [] ha, e, cw_getD_set (cw_Rt t) [] [] ha]
theorem cw_mk_text (g : cw_G) (I : Nat → Nat → Int32) (t : Bool × Bool) : cw_u (cw_mk g I t) 34 0 (.ref (cw_z g + 32)) = cw_mk g I (t.1, true) := by
  funext a b
  by_cases e : a = 34 ∧ b = 0
  · obtain ⟨rfl, rfl⟩ := e
    rw [cw_u_s]
    exact (cw_r0 rfl).symm
  · simp only [cw_u, if_neg e, cw_mk, cw_R0_text t a b e]
theorem tw_text {g : cw_G} {Y : cw_M} {ce sl pc idx : Nat} {L : List (Option Value)} {st : List Value} {Q : Option Value → cw_H → Prop} {I A : Nat → Nat → Int32} {J : Nat → Nat → Int64} {t : Bool × Bool} (hd : decode Y.2.1 pc = .ok (.putfield idx, 3)) (hf : cw_FP Y.1.cls idx 7 0 (.array .byte)) (kk : Ev g Y ce sl (pc + 3) L st (hp g I A J (t.1, true)) Q) : Ev g Y ce sl pc L (.ref (cw_z g + 32) :: .ref (cw_z g + 34) :: st) (hp g I A J t) Q :=
  ev_put hd hf (by decide) rfl rfl rfl (by rw [cw_mk_text]; exact kk)
theorem cw_R0_swap (t : Bool × Bool) (a b : Nat) (h : ¬ (a = 33 ∧ b = 2)) (h2 : ¬ (a = 0 ∧ b = 12)) : cw_R0 (!t.1, t.2) a b = cw_R0 t a b := by
  by_cases ha : a = 33
  · subst ha
    match b, h with
    | 0, _ => rfl
    | 1, _ => rfl
    | 2, h => exact absurd ⟨rfl, rfl⟩ h
    | b + 3, _ => rfl
  · by_cases hb : a = 0
    · subst hb
      match b, h2 with
      | 0, _ => rfl
      | 1, _ => rfl
      | 2, _ => rfl
      | 3, _ => rfl
      | 4, _ => rfl
      | 5, _ => rfl
      | 6, _ => rfl
      | 7, _ => rfl
      | 8, _ => rfl
      | 9, _ => rfl
      | 10, _ => rfl
      | 11, _ => rfl
      | 12, h => exact absurd ⟨rfl, rfl⟩ h
      | b + 13, _ => rfl
    · unfold cw_R0
      have e : ((cw_Rt (!t.1, t.2)).set 33 []).set 0 [] = ((cw_Rt t).set 33 []).set 0 [] := rfl
      rw [← cw_getD_set (cw_Rt (!t.1, t.2)) [] [] ha, ← cw_getD_set ((cw_Rt (!t.1, t.2)).set 33 []) [] [] hb, e, cw_getD_set ((cw_Rt t).set 33 []) [] [] hb, cw_getD_set (cw_Rt t) [] [] ha]
theorem cw_mk_swap (g : cw_G) (I : Nat → Nat → Int32) (t : Bool × Bool) : cw_u (cw_u (cw_mk g I t) 33 2 (.ref (cw_z g + cw_tr t))) 0 12 (.ref (cw_z g + cw_dr t)) = cw_mk g I (!t.1, t.2) := by
  funext a b
  by_cases e2 : a = 0 ∧ b = 12
  · obtain ⟨rfl, rfl⟩ := e2
    rw [cw_u_s]
    refine (cw_r0 (d := cw_dr t) ?_).symm
    obtain ⟨u, v⟩ := t
    cases u <;> rfl
  · by_cases e : a = 33 ∧ b = 2
    · obtain ⟨rfl, rfl⟩ := e
      rw [show cw_u (cw_u (cw_mk g I t) 33 2 (.ref (cw_z g + cw_tr t))) 0 12 (.ref (cw_z g + cw_dr t)) 33 2 = .ref (cw_z g + cw_tr t) by simp [cw_u]]
      refine (cw_r0 (d := cw_tr t) ?_).symm
      obtain ⟨u, v⟩ := t
      cases u <;> rfl
    · simp only [cw_u, if_neg e, if_neg e2, cw_mk, cw_R0_swap t a b e e2]
set_option maxRecDepth 100000 in
theorem cv_swap (g : cw_G) (I A : Nat → Nat → Int32) (J : Nat → Nat → Int64) (t : Bool × Bool) : Cd g mX4_swapDraft [.ref (cw_z g + 33), .ref (cw_z g + cw_tr t)] (hp g I A J t) (some (.ref (cw_z g + cw_dr t))) (120, cw_K0, cw_u (cw_mk g I t) 33 2 (.ref (cw_z g + cw_tr t)), A, J) := by
  refine Cd.of rfl (Nat.le_of_ble_eq_true rfl) (ev_gen (fun Q hQ => ?_))
  refine ev_aload_n (pc := 0) dX4_swapDraft_0 rfl ?_
  refine tv_getr (pc := 1) dX4_swapDraft_1 fl_X4_25 (by decide) rfl rfl ?_
  refine ev_astore_2 (pc := 4) dX4_swapDraft_4 (by decide) rfl ?_
  refine ev_aload_n (pc := 5) dX4_swapDraft_5 rfl ?_
  refine ev_aload_n (pc := 6) dX4_swapDraft_6 rfl ?_
  refine ev_put (pc := 7) dX4_swapDraft_7 fp_X4_25 (by decide) rfl rfl rfl ?_
  refine ev_aload_n (pc := 10) dX4_swapDraft_10 rfl ?_
  exact ev_aret (pc := 11) dX4_swapDraft_11 rfl (by decide) (by decide) (hQ _ _ ⟨rfl, rfl⟩)
theorem tw_swap {g : cw_G} {Y : cw_M} {ce sl pc idx : Nat} {L : List (Option Value)} {st : List Value} {Q : Option Value → cw_H → Prop} {I A : Nat → Nat → Int32} {J : Nat → Nat → Int64} {t : Bool × Bool} (hd : decode Y.2.1 pc = .ok (.putfield idx, 3)) (hf : cw_FP Y.1.cls idx 11 12 (.object "WaveHouse$Treaty")) (kk : Ev g Y ce sl (pc + 3) L st (hp g I A J (!t.1, t.2)) Q) : Ev g Y ce sl pc L (.ref (cw_z g + cw_dr t) :: .ref (cw_z g + 0) :: st) (120, cw_K0, cw_u (cw_mk g I t) 33 2 (.ref (cw_z g + cw_tr t)), A, J) Q :=
  ev_put hd hf (by decide) rfl rfl rfl (by rw [cw_mk_swap]; exact kk)
