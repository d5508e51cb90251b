/-! rows on the old heap: AIMS, the text of words -/
section EvO
variable {g : cw_G} {Y Y2 : cw_M} {ce sl pc idx k : Nat} {L : List (Option Value)} {st st0 As : List Value} {Q : Option Value → cw_H → Prop} {σ τ : cw_H}
theorem cw_old {s : State} {H : Heap} (hw : cw_W g s H σ) {a : Nat} {cell : Cell} (h : g.2.1.heap[a]? = some cell) (hA : ¬ cw_A g a) : H[a]? = some cell := by
  have h2 : a < cw_z g := Nat.not_le.mp hA
  rw [hw.2.2.1 a h2]; exact h
theorem ev_gets {C n d : String} {v : Value} (hZ : ∀ s, cw_X g s → va_Z C n d v (cw_A g) s g.2.1.heap) (hd : decode Y.2.1 pc = .ok (.getstatic idx, 3)) (hl : Cond.fieldLink Y.1.cls idx C n d ∈ cw_tbl) (kk : Ev g Y ce sl (pc + 3) L (v :: st) σ Q) : Ev g Y ce sl pc L st σ Q := by
  intro p e s m args below meth c1 H locs ls hc hw hF hlv
  obtain ⟨cf, kf, fi, f, a, cell, h1, h2, h3, h4, h5, h6, h7, h8⟩ := hZ s hw.1.2.2.2
  exact W.gets hc.1 hc.2.1 hc.2.2.2.1 (hc.w hl) h1 h2 h3 h4 (cw_old hw h5 h8) (fun e => by rw [e] at h6; cases h6) h7 rfl hd (kk p e s m args below meth c1 H locs ls hc hw hF hlv)
theorem ev_getsq {C n d : String} (hZ : ∀ s, cw_X g s → va_Zq C n d (cw_A g) s g.2.1.heap) (hd : decode Y.2.1 pc = .ok (.getstatic idx, 3)) (hl : Cond.fieldLink Y.1.cls idx C n d ∈ cw_tbl) (kk : ∀ v : Value, (v = .null ∨ ∃ a, v = .ref a) → Ev g Y ce sl (pc + 3) L (v :: st) σ Q) : Ev g Y ce sl pc L st σ Q := by
  intro p e s m args below meth c1 H locs ls hc hw hF hlv
  rcases hZ s hw.1.2.2.2 with hz | ⟨q, hz⟩
  · obtain ⟨cf, kf, fi, f, a, cell, h1, h2, h3, h4, h5, h6, h7, h8⟩ := hz
    exact W.gets hc.1 hc.2.1 hc.2.2.2.1 (hc.w hl) h1 h2 h3 h4 (cw_old hw h5 h8) (fun e => by rw [e] at h6; cases h6) h7 rfl hd (kk .null (Or.inl rfl) p e s m args below meth c1 H locs ls hc hw hF hlv)
  · obtain ⟨cf, kf, fi, f, a, cell, h1, h2, h3, h4, h5, h6, h7, h8⟩ := hz
    exact W.gets hc.1 hc.2.1 hc.2.2.2.1 (hc.w hl) h1 h2 h3 h4 (cw_old hw h5 h8) (fun e => by rw [e] at h6; cases h6) h7 rfl hd (kk (.ref q) (Or.inr ⟨q, rfl⟩) p e s m args below meth c1 H locs ls hc hw hF hlv)
theorem ev_aims {i : Int32} (hd : decode Y.2.1 pc = .ok (.iaload, 1)) (hi : vp_in i 9) (kk : Ev g Y ce sl (pc + 1) L (.int (cw_aims i.toNatClampNeg) :: st) σ Q) : Ev g Y ce sl pc L (.int i :: .ref (cw_ad g).1 :: st) σ Q := by
  intro p e s m args below meth c1 H locs ls hc hw hF hlv
  obtain ⟨cell, h1, h2, h3, h4, h5, h6, h7⟩ := hw.1.2.2.2.2.1
  have hlt : i.toNatClampNeg < 9 := Nat.not_le.mp fun q => hi (Or.inr q)
  exact W.iald hc.1 hc.2.1 (cw_old hw h1 h7) h2 h3 (fun q => hi (q.imp id (fun q => by omega))) (v := .int (cw_aims i.toNatClampNeg)) (h6 _ hlt) rfl rfl hd (kk p e s m args below meth c1 H locs ls hc hw hF hlv)
theorem ev_ldcS (hd : decode Y.2.1 pc = .ok (.ldc 60, 2)) (ho : Y.1.cls = "WaveHouse$Scanner") (kk : Ev g Y ce sl (pc + 2) L (.ref (cw_ad g).2.1 :: st) σ Q) : Ev g Y ce sl pc L st σ Q :=
  fun p e s m args below meth c1 H locs ls hc hw hF hlv => va_ldcS hc.1 hc.2.1 (ho ▸ hc.2.2.2.1) hw.1.2.2.2.2.2.2.1 hd (kk p e s m args below meth c1 H locs ls hc hw hF hlv)
theorem cw_str {s : State} (h : cw_X g s) : va_O "java/lang/String" (cw_ad g).2.1 (cw_A g) s g.2.1.heap ∧ va_OF "java/lang/String" "coder" "B" (.int 0) (cw_ad g).2.1 (cw_A g) s g.2.1.heap ∧ va_OF "java/lang/String" "value" "[B" (.ref (cw_ad g).2.2) (cw_ad g).2.1 (cw_A g) s g.2.1.heap ∧ va_T .byte (cw_ad g).2.2 120 (fun j => .int (cw_wb.getD j 0)) (cw_A g) s g.2.1.heap := h.2.2.2.2.1.1 0 (by decide)
theorem ev_scod (hd : decode Y.2.1 pc = .ok (.getfield idx, 3)) (hl : Cond.fieldLink Y.1.cls idx "java/lang/String" "coder" "B" ∈ cw_tbl) (kk : Ev g Y ce sl (pc + 3) L (.int 0 :: st) σ Q) : Ev g Y ce sl pc L (.ref (cw_ad g).2.1 :: st) σ Q := by
  intro p e s m args below meth c1 H locs ls hc hw hF hlv
  obtain ⟨cf, k, fi, f, cell, h1, h2, h3, h4, h5, h6⟩ := (cw_str hw.1.2.2.2).2.1
  exact W.getf hc.1 hc.2.1 hc.2.2.2.1 (hc.w hl) h1 h2 (cw_old hw h3 h6) h4 (v := .int 0) h5 rfl rfl hd (kk p e s m args below meth c1 H locs ls hc hw hF hlv)
theorem ev_sval (hd : decode Y.2.1 pc = .ok (.getfield idx, 3)) (hl : Cond.fieldLink Y.1.cls idx "java/lang/String" "value" "[B" ∈ cw_tbl) (kk : Ev g Y ce sl (pc + 3) L (.ref (cw_ad g).2.2 :: st) σ Q) : Ev g Y ce sl pc L (.ref (cw_ad g).2.1 :: st) σ Q := by
  intro p e s m args below meth c1 H locs ls hc hw hF hlv
  obtain ⟨cf, k, fi, f, cell, h1, h2, h3, h4, h5, h6⟩ := (cw_str hw.1.2.2.2).2.2.1
  exact W.getf hc.1 hc.2.1 hc.2.2.2.1 (hc.w hl) h1 h2 (cw_old hw h3 h6) h4 (v := .ref (cw_ad g).2.2) h5 rfl rfl hd (kk p e s m args below meth c1 H locs ls hc hw hF hlv)
theorem ev_slen (hd : decode Y.2.1 pc = .ok (.arraylength, 1)) (kk : Ev g Y ce sl (pc + 1) L (.int 120 :: st) σ Q) : Ev g Y ce sl pc L (.ref (cw_ad g).2.2 :: st) σ Q := by
  intro p e s m args below meth c1 H locs ls hc hw hF hlv
  obtain ⟨cell, h1, h2, h3, h4, h5, h6, h7⟩ := (cw_str hw.1.2.2.2).2.2.2
  exact W.alen (n := 120) hc.1 hc.2.1 (cw_old hw h1 h7) h2 (h5.trans rfl) rfl rfl hd (kk p e s m args below meth c1 H locs ls hc hw hF hlv)
theorem ev_sbald {i : Int32} (hd : decode Y.2.1 pc = .ok (.baload, 1)) (hi : vp_in i 120) (kk : Ev g Y ce sl (pc + 1) L (.int (cw_wb.getD i.toNatClampNeg 0) :: st) σ Q) : Ev g Y ce sl pc L (.int i :: .ref (cw_ad g).2.2 :: st) σ Q := by
  intro p e s m args below meth c1 H locs ls hc hw hF hlv
  obtain ⟨cell, h1, h2, h3, h4, h5, h6, h7⟩ := (cw_str hw.1.2.2.2).2.2.2
  have hlt : i.toNatClampNeg < 120 := Nat.not_le.mp fun q => hi (Or.inr q)
  exact W.bald hc.1 hc.2.1 (cw_old hw h1 h7) h2 h3 (fun q => hi (q.imp id (fun q => by omega))) (v := .int (cw_wb.getD i.toNatClampNeg 0)) (h6 _ hlt) rfl rfl hd (kk p e s m args below meth c1 H locs ls hc hw hF hlv)
theorem ev_VS {v : Int32} (hd : decode Y.2.1 pc = .ok (.invokevirtual idx, 3)) (hl : cw_LV Y.1.cls idx Y2) (h2 : cw_cd Y2) (ha : cw_ar Y2 k) (hR : cw_rm Y Y2) (hC : Y2.1.cls = "java/lang/String") (hM : Cd g Y2 (.ref (cw_ad g).2.1 :: As) σ (some (.int v)) τ)
    (hA : As.length = k) (hst : st0 = As.reverse ++ .ref (cw_ad g).2.1 :: st) (hW : (st.map fun v => v.category).sum ≤ 8) (hf : ce ≤ Y.2.2.2.2.cells ∧ sl ≤ Y.2.2.2.2.slots)
    (kk : Ev g Y ce sl (pc + 3) L (.int v :: st) τ Q) : Ev g Y ce sl pc L st0 σ Q := by
  intro p e s m args below meth c1 H locs ls hc hw hF hlv
  have hcell : ∃ cellB : Cell, H[(cw_ad g).2.1]? = some cellB ∧ cellB.vm.isStatics = false ∧ s.vm.findClass Y2.1.cls = some cellB.cls := by
    obtain ⟨cell, h1, h2, h3, h4⟩ := (cw_str hw.1.2.2.2).1
    exact ⟨cell, cw_old hw h1 h4, h2, hC ▸ h3⟩
  refine cw_goes (Y2 := Y2) (Q2 := fun r' τ' => r' = some (.int v) ∧ τ' = τ) (va_runV (C := Y2.1.cls) (As := As) (rest := st) (nL := Y.2.2.1) (Ts := cw_tbl) ⟨hc.1, hc.2.1, hc.2.2.1, hc.2.2.2.1, hc.ws⟩ hM ⟨cw_callB hc h2 ha hl.1 hR.1, hc.w hl.2.1, hc.w hl.2.2⟩ ⟨cw_blind, hcell, cw_pre hw⟩ rfl hA hlv.1 hst (lv_room hW) hd (by rw [hR.2.1, hR.2.2]; exact hf)) hc hw hF hlv (fun r' τ' h => ?_)
  rw [hR.2.1, hR.2.2, h.1, h.2]
  exact kk
end EvO
