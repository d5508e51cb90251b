/-! classes, links -/
def cw_KC (ci : Nat) (C : String) (T : u_T) (N : Nat) (ty : Nat → FieldType) : Prop := vwCl[ci]? = some (C, T, N) ∧ ci < 13 ∧ (∀ w ∈ u_ws C T N, w ∈ cw_tbl) ∧ (∀ k, k < N → parseFieldDescriptor (T k).2.2.1 = some (ty k)) ∧ (∀ a, a < N → ∀ b, b < N → a ≠ b → (T a).2.1 ≠ (T b).2.1)
def cw_FL (own : String) (idx ci k : Nat) : Prop := ∃ (C : String) (T : u_T) (N : Nat) (ty : Nat → FieldType), cw_KC ci C T N ty ∧ k < N ∧ Cond.fieldLink own idx C (T k).2.1 (T k).2.2.1 ∈ cw_tbl ∧ (T k).1 = C
def cw_FP (own : String) (idx ci k : Nat) (t0 : FieldType) : Prop := ∃ (C : String) (T : u_T) (N : Nat) (ty : Nat → FieldType), cw_KC ci C T N ty ∧ k < N ∧ Cond.fieldLink own idx C (T k).2.1 (T k).2.2.1 ∈ cw_tbl ∧ (T k).1 = C ∧ (T k).2.2.2 = false ∧ ty k = t0
def cw_FI (own : String) (idx ci k : Nat) (t0 : FieldType) : Prop := ∃ (C : String) (T : u_T) (N : Nat) (ty : Nat → FieldType), cw_KC ci C T N ty ∧ k < N ∧ Cond.fieldLink own idx C (T k).2.1 (T k).2.2.1 ∈ cw_tbl ∧ (T k).1 = C ∧ (T k).2.2.2 = true ∧ ty k = t0 ∧ C = own
def cw_ar (Y2 : cw_M) (n : Nat) : Prop := Y2.1.cls ≠ "java/lang/invoke/MethodHandle" ∧ Y2.1.cls ≠ "java/lang/invoke/VarHandle" ∧ (parseMethodDescriptor Y2.1.desc).map (fun d => d.parameters.length) = some n
def cw_cd (Y2 : cw_M) : Prop := Cond.code Y2.1 Y2.2.1 Y2.2.2.1 Y2.2.2.2.1 ∈ cw_tbl ∧ Cond.initialized Y2.1.cls ∈ cw_tbl
def cw_LV (own : String) (idx : Nat) (Y2 : cw_M) : Prop := Cond.methodLink own idx Y2.1 ∈ cw_tbl ∧ Cond.instanceMethod Y2.1 ∈ cw_tbl ∧ Cond.selects Y2.1.cls Y2.1 Y2.1 ∈ cw_tbl
def cw_LS (own : String) (idx : Nat) (Y2 : cw_M) : Prop := Cond.methodLink own idx Y2.1 ∈ cw_tbl ∧ Cond.static Y2.1 ∈ cw_tbl
def cw_LI (own : String) (idx : Nat) (Y2 : cw_M) : Prop := Cond.methodLink own idx Y2.1 ∈ cw_tbl ∧ Cond.instanceMethod Y2.1 ∈ cw_tbl
def cw_NS (own : String) (idx : Nat) (Y2 : cw_M) : Prop := ∃ h : String, Cond.methodLinkNest own idx Y2.1 h ∈ lw_tbl ∧ Cond.static Y2.1 ∈ cw_tbl
def cw_NI (own : String) (idx : Nat) (Y2 : cw_M) : Prop := ∃ h : String, Cond.methodLinkNest own idx Y2.1 h ∈ lw_tbl ∧ Cond.instanceMethod Y2.1 ∈ cw_tbl
theorem cw_cx.w {Y : cw_M} {p : Program} {s : State} {m : MethodId} {args : Array Value} {meth : Method} {c : Code} (hc : cw_cx Y p s m args meth c) {w : Cond} (h : w ∈ cw_tbl) : w.before args s = true := hc.2.2.2.2.1 w (List.mem_cons_of_mem _ h)
theorem cw_cx.ws {Y : cw_M} {p : Program} {s : State} {m : MethodId} {args : Array Value} {meth : Method} {c : Code} (hc : cw_cx Y p s m args meth c) : ∀ w ∈ cw_tbl, w.before args s = true := fun _ h => hc.w h
theorem cw_ck.kept {g : cw_G} {s : State} {H H' : Heap} {σ σ' : cw_H} {c : Nat} (h : cw_ck g s H σ c) (hq : H'[cw_z g + c]? = H[cw_z g + c]?) (hK : σ'.2.1 c = σ.2.1 c) (hV : σ'.2.2.1 c = σ.2.2.1 c) (hA : cw_con σ' c = cw_con σ c) : cw_ck g s H' σ' c := by
  refine ⟨fun q => ?_, fun q => ?_⟩
  · rw [hK] at q ⊢
    obtain ⟨r, a, b⟩ := h.1 q
    rw [hV]
    exact ⟨r, a, b.kept hq⟩
  · rw [hK] at q ⊢
    obtain ⟨cA, a, b⟩ := h.2 q
    exact ⟨cA, by rw [hq, a, hA], b⟩
theorem cw_P.upd {g : cw_G} {s : State} {H H' : Heap} {σ σ' : cw_H} {c : Nat} (h : cw_P g s H σ) (z : H'.size = H.size) (oq : ∀ q : Nat, q ≠ cw_z g + c → H'[q]? = H[q]?) (hn : σ'.1 = σ.1) (ho : ∀ b, b ≠ c → σ'.2.1 b = σ.2.1 b ∧ σ'.2.2.1 b = σ.2.2.1 b ∧ cw_con σ' b = cw_con σ b) (hc : cw_ck g s H' σ' c) : cw_P g s H' σ' := by
  refine ⟨by rw [z, hn]; exact h.1, fun q hq => (oq q (by omega)).trans (h.2.1 q hq), fun b hb => ?_⟩
  by_cases e : b = c
  · subst e; exact hc
  · obtain ⟨h1, h2, h3⟩ := ho b e
    exact (h.2.2 b (by rw [hn] at hb; exact hb)).kept (oq _ (by omega)) h1 h2 h3
theorem cw_u_s {α : Type} (f : Nat → Nat → α) (c k : Nat) (x : α) : cw_u f c k x c k = x := by simp [cw_u]
theorem cw_u_c {α : Type} (f : Nat → Nat → α) {c k b : Nat} (x : α) (h : b ≠ c) : cw_u f c k x b = f b := by funext j; simp [cw_u, h]
theorem cw_u_k {α : Type} (f : Nat → Nat → α) {c k j : Nat} (x : α) (h : j ≠ k) : cw_u f c k x c j = f c j := by simp [cw_u, h]
theorem cw_F.app {g : cw_G} {locs : List Loc} {c k : Nat} (h : ∀ q ∈ locs, cw_F g q.base) : ∀ q ∈ locs ++ [⟨cw_z g + c, k⟩], cw_F g q.base := by
  intro q hq
  rcases List.mem_append.mp hq with h1 | h1
  · exact h q h1
  · rw [List.mem_singleton.mp h1]; exact Nat.le_add_right _ _
section EvB
variable {g : cw_G} {Y : cw_M} {ce sl pc : Nat} {L : List (Option Value)} {st : List Value} {Q : Option Value → cw_H → Prop} {n c : Nat} {K : Nat → Nat × Nat} {V : Nat → Nat → Value} {A : Nat → Nat → Int32} {J : Nat → Nat → Int64} {σ : cw_H}
theorem ev_get {idx ci k : Nat} {v : Value} (hd : decode Y.2.1 pc = .ok (.getfield idx, 3)) (hf : cw_FL Y.1.cls idx ci k) (hn : c < σ.1) (hK : (σ.2.1 c).1 = ci) (hv : σ.2.2.1 c k = v) (kk : Ev g Y ce sl (pc + 3) L (v :: st) σ Q) : Ev g Y ce sl pc L (.ref (cw_z g + c) :: st) σ Q := by
  intro p e s m args below meth c1 H locs ls hc hw hF hl
  obtain ⟨C, T, N, ty, ⟨hcl, h13, hin, hty, hnm⟩, hk, hlink, hTC⟩ := hf
  obtain ⟨r, hr, cell, q1, q2, q3, q4⟩ := (hw.2.2.2 c hn).1 (by rw [hK]; exact h13)
  rw [hK] at hr q4
  cases hr.symm.trans hcl
  obtain ⟨hS, hfc, kC, hkC, hkind⟩ := hw.1.2.1.1 ci _ hcl
  obtain ⟨cf, kf, fi, f, hi, hsl⟩ := hS k hk
  refine W.getf hc.1 hc.2.1 hc.2.2.2.1 (hc.w hlink) (hTC ▸ hi) (u_facts hfc hkC (u_lays hc.ws hin hk) hi).1 q1 (by rw [q3]; exact fun h => by cases h) (v := v) ?_ rfl rfl hd (kk p e s m args below meth c1 H locs ls hc hw hF hl)
  rw [hsl, q4 k hk, hv]
theorem ev_put {idx ci k : Nat} {t0 : FieldType} {v : Value} (hd : decode Y.2.1 pc = .ok (.putfield idx, 3)) (hf : cw_FP Y.1.cls idx ci k t0) (hn : c < n) (hK : (K c).1 = ci) (h1 : narrow t0 v = v) (h2 : fits t0 v = true) (kk : Ev g Y ce sl (pc + 3) L st (n, K, cw_u V c k v, A, J) Q) : Ev g Y ce sl pc L (v :: .ref (cw_z g + c) :: st) (n, K, V, A, J) Q := by
  intro p e s m args below meth c1 H locs ls hc hw hF hl
  obtain ⟨C, T, N, ty, ⟨hcl, h13, hin, hty, hnm⟩, hk, hlink, hTC, hfin, hty0⟩ := hf
  have hap := va_apart (own := Y.1.cls) hc.ws hin ty hty hnm hw.1.2.1 hcl
  obtain ⟨r, hr, cell, q1, q2, q3, q4⟩ := (hw.2.2.2 c hn).1 (by show (K c).1 < 13; rw [hK]; exact h13)
  dsimp only at hr q2 q4
  rw [hK] at hr q4 q2
  cases hr.symm.trans hcl
  obtain ⟨hS, hfc, kC, hkC, hkind⟩ := hw.1.2.1.1 ci _ hcl
  obtain ⟨cf, kf, fi, f, hi, hsl⟩ := hS k hk
  have hlay := hc.ws _ (hin _ (u_in_lay hk))
  unfold u_lay at hlay
  rw [if_neg (by rw [hfin]; decide)] at hlay
  have hst := (u_facts hfc hkC (u_lays hc.ws hin hk) hi).1
  have h6 := u_store hfc hkC hkind hlay hi (hty k hk) (by rw [hty0]; exact h1) (by rw [hty0]; exact h2)
  refine W.putK hc.1 hc.2.1 (f := f) ⟨hc.2.2.2.1, hc.w hlink, ⟨_, _, _, hTC ▸ hi⟩, hst⟩ (by rw [q2]; exact h6) q1 q3 (by rw [hsl]; exact k2_hasslot (q4 k hk)) rfl rfl hd fun H' e1 e2 e3 => ?_
  rw [hsl] at e1 ⊢
  refine kk p e s m args below meth c1 H' _ ls hc ⟨hw.1, hw.2.upd e2 e3 rfl (fun b hb => ⟨rfl, cw_u_c _ _ hb, rfl⟩) ⟨fun _ => ?_, fun q => ?_⟩⟩ (cw_F.app hF) hl
  · refine ⟨(C, T, N), ?_, ⟨_, e1, ?_, q3, ?_⟩⟩
    · show vwCl[(K c).1]? = _
      rw [hK]; exact hcl
    · show cell.cls = (g.2.2.1 (K c).1)
      rw [hK]; exact q2
    · intro j hj
      show (cell.setSlot (g.2.2.2 ci k) v).slots[g.2.2.2 (K c).1 j]? = _
      rw [hK, t_set q4 hap hk v j hj]
      simp [updV, cw_u]
  · exact absurd q (by show ¬ 13 ≤ (K c).1; rw [hK]; omega)
theorem ev_putF {idx ci k : Nat} {t0 : FieldType} {v : Value} (hd : decode Y.2.1 pc = .ok (.putfield idx, 3)) (hf : cw_FI Y.1.cls idx ci k t0) (hin2 : Y.1.name = "<init>") (hn : c < n) (hK : (K c).1 = ci) (h1 : narrow t0 v = v) (h2 : fits t0 v = true) (kk : Ev g Y ce sl (pc + 3) L st (n, K, cw_u V c k v, A, J) Q) : Ev g Y ce sl pc L (v :: .ref (cw_z g + c) :: st) (n, K, V, A, J) Q := by
  intro p e s m args below meth c1 H locs ls hc hw hF hl
  obtain ⟨C, T, N, ty, ⟨hcl, h13, hin, hty, hnm⟩, hk, hlink, hTC, hfin, hty0, hCo⟩ := hf
  have hap := va_apart (own := Y.1.cls) hc.ws hin ty hty hnm hw.1.2.1 hcl
  obtain ⟨r, hr, cell, q1, q2, q3, q4⟩ := (hw.2.2.2 c hn).1 (by show (K c).1 < 13; rw [hK]; exact h13)
  dsimp only at hr q2 q4
  rw [hK] at hr q4 q2
  cases hr.symm.trans hcl
  obtain ⟨hS, hfc, kC, hkC, hkind⟩ := hw.1.2.1.1 ci _ hcl
  obtain ⟨cf, kf, fi, f, hi, hsl⟩ := hS k hk
  have hlay := hc.ws _ (hin _ (u_in_lay hk))
  unfold u_lay at hlay
  rw [if_pos hfin] at hlay
  have hst := (u_facts hfc hkC (u_lays hc.ws hin hk) hi).1
  have hcf : m.cls = cf := by
    obtain ⟨_, _, c', _, _, _, -, -, hf', -, -, -, hown2, -⟩ := Cond.laysFinal_spec hlay
    have e1 : c' = cf := by have := hi.symm.trans hf'; simp at this; exact this.1.symm
    rw [hTC, hCo] at hown2
    rw [← e1]; exact Option.some.inj (hc.2.2.2.1.symm.trans hown2)
  have h6 := u_fits hfc hkC hkind (Or.inr hlay) hi (hty k hk) (by rw [hty0]; exact h1) (by rw [hty0]; exact h2)
  refine W.putFinK hc.1 hc.2.1 hc.2.2.2.1 (hc.w hlink) (hTC ▸ hi) hst hcf (hc.2.2.2.2.2.2.2.trans hin2) (by rw [q2]; exact h6) q1 q3 (by rw [hsl]; exact k2_hasslot (q4 k hk)) rfl rfl hd fun H' e1 e2 e3 => ?_
  rw [hsl] at e1 ⊢
  refine kk p e s m args below meth c1 H' _ ls hc ⟨hw.1, hw.2.upd e2 e3 rfl (fun b hb => ⟨rfl, cw_u_c _ _ hb, rfl⟩) ⟨fun _ => ?_, fun q => ?_⟩⟩ (cw_F.app hF) hl
  · refine ⟨(C, T, N), ?_, ⟨_, e1, ?_, q3, ?_⟩⟩
    · show vwCl[(K c).1]? = _
      rw [hK]; exact hcl
    · show cell.cls = (g.2.2.1 (K c).1)
      rw [hK]; exact q2
    · intro j hj
      show (cell.setSlot (g.2.2.2 ci k) v).slots[g.2.2.2 (K c).1 j]? = _
      rw [hK, t_set q4 hap hk v j hj]
      simp [updV, cw_u]
  · exact absurd q (by show ¬ 13 ≤ (K c).1; rw [hK]; omega)
theorem cw_arr {s : State} {H : Heap} {N k : Nat} (hw : cw_W g s H σ) (hn : c < σ.1) (hK : σ.2.1 c = (k, N)) (h13 : 13 ≤ k) : ∃ cA : ClassId, H[cw_z g + c]? = some (arrV cA N (cw_con σ c)) ∧ ArrOfT s cA (cw_ty k) := by
  obtain ⟨cA, a, b⟩ := (hw.2.2.2 c hn).2 (by rw [hK]; exact h13)
  rw [hK] at a b
  exact ⟨cA, a, b⟩
theorem ev_alen {N k : Nat} (hd : decode Y.2.1 pc = .ok (.arraylength, 1)) (hn : c < σ.1) (hK : σ.2.1 c = (k, N)) (h13 : 13 ≤ k) (kk : Ev g Y ce sl (pc + 1) L (.int (nI N) :: st) σ Q) : Ev g Y ce sl pc L (.ref (cw_z g + c) :: st) σ Q := by
  intro p e s m args below meth c1 H locs ls hc hw hF hl
  obtain ⟨cA, a, b⟩ := cw_arr hw hn hK h13
  exact W.alen (n := nI N) hc.1 hc.2.1 a (b N _) (by rw [arrV_size]; rfl) rfl rfl hd (kk p e s m args below meth c1 H locs ls hc hw hF hl)
theorem ev_iald {N : Nat} {i : Int32} (hd : decode Y.2.1 pc = .ok (.iaload, 1)) (hn : c < n) (hK : K c = (14, N)) (hi : vp_in i N) (kk : Ev g Y ce sl (pc + 1) L (.int (A c i.toNatClampNeg) :: st) (n, K, V, A, J) Q) : Ev g Y ce sl pc L (.int i :: .ref (cw_z g + c) :: st) (n, K, V, A, J) Q := by
  intro p e s m args below meth c1 H locs ls hc hw hF hl
  obtain ⟨cA, a, b⟩ := cw_arr hw hn hK (by decide)
  have hlt : i.toNatClampNeg < N := Nat.not_le.mp fun q => hi (Or.inr q)
  refine W.iald hc.1 hc.2.1 a (b N _) (fun q => by cases q) (by rw [arrV_size]; exact hi) (v := .int (A c i.toNatClampNeg)) ?_ rfl rfl hd (kk p e s m args below meth c1 H locs ls hc hw hF hl)
  rw [arrV_read _ _ hlt]
  simp [cw_con, hK]
theorem ev_bald {N : Nat} {i : Int32} (hd : decode Y.2.1 pc = .ok (.baload, 1)) (hn : c < n) (hK : K c = (13, N)) (hi : vp_in i N) (kk : Ev g Y ce sl (pc + 1) L (.int (A c i.toNatClampNeg) :: st) (n, K, V, A, J) Q) : Ev g Y ce sl pc L (.int i :: .ref (cw_z g + c) :: st) (n, K, V, A, J) Q := by
  intro p e s m args below meth c1 H locs ls hc hw hF hl
  obtain ⟨cA, a, b⟩ := cw_arr hw hn hK (by decide)
  have hlt : i.toNatClampNeg < N := Nat.not_le.mp fun q => hi (Or.inr q)
  refine W.bald hc.1 hc.2.1 a (b N _) (fun q => by cases q) (by rw [arrV_size]; exact hi) (v := .int (A c i.toNatClampNeg)) ?_ rfl rfl hd (kk p e s m args below meth c1 H locs ls hc hw hF hl)
  rw [arrV_read _ _ hlt]
  simp [cw_con, hK]
theorem ev_zald {N : Nat} {i : Int32} (hd : decode Y.2.1 pc = .ok (.baload, 1)) (hn : c < n) (hK : K c = (17, N)) (hi : vp_in i N) (kk : Ev g Y ce sl (pc + 1) L (.int (A c i.toNatClampNeg) :: st) (n, K, V, A, J) Q) : Ev g Y ce sl pc L (.int i :: .ref (cw_z g + c) :: st) (n, K, V, A, J) Q := by
  intro p e s m args below meth c1 H locs ls hc hw hF hl
  obtain ⟨cA, a, b⟩ := cw_arr hw hn hK (by decide)
  have hlt : i.toNatClampNeg < N := Nat.not_le.mp fun q => hi (Or.inr q)
  refine W.zald hc.1 hc.2.1 a (b N _) (fun q => by cases q) (by rw [arrV_size]; exact hi) (v := .int (A c i.toNatClampNeg)) ?_ rfl rfl hd (kk p e s m args below meth c1 H locs ls hc hw hF hl)
  rw [arrV_read _ _ hlt]
  simp [cw_con, hK]
theorem ev_sald {N : Nat} {i : Int32} (hd : decode Y.2.1 pc = .ok (.saload, 1)) (hn : c < n) (hK : K c = (16, N)) (hi : vp_in i N) (kk : Ev g Y ce sl (pc + 1) L (.int (A c i.toNatClampNeg) :: st) (n, K, V, A, J) Q) : Ev g Y ce sl pc L (.int i :: .ref (cw_z g + c) :: st) (n, K, V, A, J) Q := by
  intro p e s m args below meth c1 H locs ls hc hw hF hl
  obtain ⟨cA, a, b⟩ := cw_arr hw hn hK (by decide)
  have hlt : i.toNatClampNeg < N := Nat.not_le.mp fun q => hi (Or.inr q)
  refine W.sald hc.1 hc.2.1 a (b N _) (fun q => by cases q) (by rw [arrV_size]; exact hi) (v := .int (A c i.toNatClampNeg)) ?_ rfl rfl hd (kk p e s m args below meth c1 H locs ls hc hw hF hl)
  rw [arrV_read _ _ hlt]
  simp [cw_con, hK]
theorem ev_lald {N : Nat} {i : Int32} (hd : decode Y.2.1 pc = .ok (.laload, 1)) (hn : c < n) (hK : K c = (15, N)) (hi : vp_in i N) (kk : Ev g Y ce sl (pc + 1) L (.long (J c i.toNatClampNeg) :: st) (n, K, V, A, J) Q) : Ev g Y ce sl pc L (.int i :: .ref (cw_z g + c) :: st) (n, K, V, A, J) Q := by
  intro p e s m args below meth c1 H locs ls hc hw hF hl
  obtain ⟨cA, a, b⟩ := cw_arr hw hn hK (by decide)
  have hlt : i.toNatClampNeg < N := Nat.not_le.mp fun q => hi (Or.inr q)
  refine W.lald hc.1 hc.2.1 a (b N _) (fun q => by cases q) (by rw [arrV_size]; exact hi) (v := .long (J c i.toNatClampNeg)) ?_ rfl rfl hd (kk p e s m args below meth c1 H locs ls hc hw hF hl)
  rw [arrV_read _ _ hlt]
  simp [cw_con, hK]
theorem ev_iast {N : Nat} {i x : Int32} (hd : decode Y.2.1 pc = .ok (.iastore, 1)) (hn : c < n) (hK : K c = (14, N)) (hi : vp_in i N) (kk : Ev g Y ce sl (pc + 1) L st (n, K, V, cw_u A c i.toNatClampNeg (x), J) Q) : Ev g Y ce sl pc L (.int x :: .int i :: .ref (cw_z g + c) :: st) (n, K, V, A, J) Q := by
  intro p e s m args below meth c1 H locs ls hc hw hF hl
  obtain ⟨cA, a, b⟩ := cw_arr hw hn hK (by decide)
  refine W.iast hc.1 hc.2.1 a (b N _) (fun q => by cases q) (by rw [arrV_size]; exact hi) rfl rfl hd fun H' e1 e2 e3 => ?_
  refine kk p e s m args below meth c1 H' _ ls hc ⟨hw.1, hw.2.upd e2 e3 rfl (fun b hb => ⟨rfl, rfl, ?_⟩) ⟨fun q => ?_, fun _ => ⟨cA, ?_, ?_⟩⟩⟩ (cw_F.app hF) hl
  · unfold cw_con
    dsimp only
    rw [cw_u_c _ _ hb]
  · exact absurd q (by show ¬ (K c).1 < 13; rw [hK]; simp)
  · rw [e1, arrV_store]
    show _ = some (arrV cA (K c).2 _)
    rw [hK]
    congr 2
    funext j
    by_cases hj : j = i.toNatClampNeg
    · subst hj
      simp [updV, cw_con, hK, cw_u]
    · simp [updV, cw_con, hK, cw_u, hj]
  · show ArrOfT s cA (cw_ty (K c).1)
    rw [hK]; exact b
theorem ev_bast {N : Nat} {i x : Int32} (hd : decode Y.2.1 pc = .ok (.bastore, 1)) (hn : c < n) (hK : K c = (13, N)) (hi : vp_in i N) (kk : Ev g Y ce sl (pc + 1) L st (n, K, V, cw_u A c i.toNatClampNeg (x.toInt8.toInt32), J) Q) : Ev g Y ce sl pc L (.int x :: .int i :: .ref (cw_z g + c) :: st) (n, K, V, A, J) Q := by
  intro p e s m args below meth c1 H locs ls hc hw hF hl
  obtain ⟨cA, a, b⟩ := cw_arr hw hn hK (by decide)
  refine W.bast hc.1 hc.2.1 a (b N _) (fun q => by cases q) (by rw [arrV_size]; exact hi) rfl rfl hd fun H' e1 e2 e3 => ?_
  refine kk p e s m args below meth c1 H' _ ls hc ⟨hw.1, hw.2.upd e2 e3 rfl (fun b hb => ⟨rfl, rfl, ?_⟩) ⟨fun q => ?_, fun _ => ⟨cA, ?_, ?_⟩⟩⟩ (cw_F.app hF) hl
  · unfold cw_con
    dsimp only
    rw [cw_u_c _ _ hb]
  · exact absurd q (by show ¬ (K c).1 < 13; rw [hK]; simp)
  · rw [e1, arrV_store]
    show _ = some (arrV cA (K c).2 _)
    rw [hK]
    congr 2
    funext j
    by_cases hj : j = i.toNatClampNeg
    · subst hj
      simp [updV, cw_con, hK, cw_u, narrow]
    · simp [updV, cw_con, hK, cw_u, hj]
  · show ArrOfT s cA (cw_ty (K c).1)
    rw [hK]; exact b
theorem ev_zast {N : Nat} {i x : Int32} (hd : decode Y.2.1 pc = .ok (.bastore, 1)) (hn : c < n) (hK : K c = (17, N)) (hi : vp_in i N) (kk : Ev g Y ce sl (pc + 1) L st (n, K, V, cw_u A c i.toNatClampNeg (vp_nar .boolean x), J) Q) : Ev g Y ce sl pc L (.int x :: .int i :: .ref (cw_z g + c) :: st) (n, K, V, A, J) Q := by
  intro p e s m args below meth c1 H locs ls hc hw hF hl
  obtain ⟨cA, a, b⟩ := cw_arr hw hn hK (by decide)
  refine W.zast hc.1 hc.2.1 a (b N _) (fun q => by cases q) (by rw [arrV_size]; exact hi) rfl rfl hd fun H' e1 e2 e3 => ?_
  refine kk p e s m args below meth c1 H' _ ls hc ⟨hw.1, hw.2.upd e2 e3 rfl (fun b hb => ⟨rfl, rfl, ?_⟩) ⟨fun q => ?_, fun _ => ⟨cA, ?_, ?_⟩⟩⟩ (cw_F.app hF) hl
  · unfold cw_con
    dsimp only
    rw [cw_u_c _ _ hb]
  · exact absurd q (by show ¬ (K c).1 < 13; rw [hK]; simp)
  · rw [e1, arrV_store]
    show _ = some (arrV cA (K c).2 _)
    rw [hK]
    congr 2
    funext j
    by_cases hj : j = i.toNatClampNeg
    · subst hj
      simp [updV, cw_con, hK, cw_u, vp_nar, narrow]
    · simp [updV, cw_con, hK, cw_u, hj]
  · show ArrOfT s cA (cw_ty (K c).1)
    rw [hK]; exact b
theorem ev_sast {N : Nat} {i x : Int32} (hd : decode Y.2.1 pc = .ok (.sastore, 1)) (hn : c < n) (hK : K c = (16, N)) (hi : vp_in i N) (kk : Ev g Y ce sl (pc + 1) L st (n, K, V, cw_u A c i.toNatClampNeg (x.toInt16.toInt32), J) Q) : Ev g Y ce sl pc L (.int x :: .int i :: .ref (cw_z g + c) :: st) (n, K, V, A, J) Q := by
  intro p e s m args below meth c1 H locs ls hc hw hF hl
  obtain ⟨cA, a, b⟩ := cw_arr hw hn hK (by decide)
  refine W.sast hc.1 hc.2.1 a (b N _) (fun q => by cases q) (by rw [arrV_size]; exact hi) rfl rfl hd fun H' e1 e2 e3 => ?_
  refine kk p e s m args below meth c1 H' _ ls hc ⟨hw.1, hw.2.upd e2 e3 rfl (fun b hb => ⟨rfl, rfl, ?_⟩) ⟨fun q => ?_, fun _ => ⟨cA, ?_, ?_⟩⟩⟩ (cw_F.app hF) hl
  · unfold cw_con
    dsimp only
    rw [cw_u_c _ _ hb]
  · exact absurd q (by show ¬ (K c).1 < 13; rw [hK]; simp)
  · rw [e1, arrV_store]
    show _ = some (arrV cA (K c).2 _)
    rw [hK]
    congr 2
    funext j
    by_cases hj : j = i.toNatClampNeg
    · subst hj
      simp [updV, cw_con, hK, cw_u, narrow]
    · simp [updV, cw_con, hK, cw_u, hj]
  · show ArrOfT s cA (cw_ty (K c).1)
    rw [hK]; exact b
theorem ev_last {N : Nat} {i : Int32} {x : Int64} (hd : decode Y.2.1 pc = .ok (.lastore, 1)) (hn : c < n) (hK : K c = (15, N)) (hi : vp_in i N) (kk : Ev g Y ce sl (pc + 1) L st (n, K, V, A, cw_u J c i.toNatClampNeg x) Q) : Ev g Y ce sl pc L (.long x :: .int i :: .ref (cw_z g + c) :: st) (n, K, V, A, J) Q := by
  intro p e s m args below meth c1 H locs ls hc hw hF hl
  obtain ⟨cA, a, b⟩ := cw_arr hw hn hK (by decide)
  refine W.last hc.1 hc.2.1 a (b N _) (fun q => by cases q) (by rw [arrV_size]; exact hi) rfl rfl hd fun H' e1 e2 e3 => ?_
  refine kk p e s m args below meth c1 H' _ ls hc ⟨hw.1, hw.2.upd e2 e3 rfl (fun b hb => ⟨rfl, rfl, ?_⟩) ⟨fun q => ?_, fun _ => ⟨cA, ?_, ?_⟩⟩⟩ (cw_F.app hF) hl
  · unfold cw_con
    dsimp only
    rw [cw_u_c _ _ hb]
  · exact absurd q (by show ¬ (K c).1 < 13; rw [hK]; simp)
  · rw [e1, arrV_store]
    show _ = some (arrV cA (K c).2 _)
    rw [hK]
    congr 2
    funext j
    by_cases hj : j = i.toNatClampNeg
    · subst hj
      simp [updV, cw_con, hK, cw_u]
    · simp [updV, cw_con, hK, cw_u, hj]
  · show ArrOfT s cA (cw_ty (K c).1)
    rw [hK]; exact b
theorem cw_retW {s : State} {H : Heap} {r : Option Value} (hw : cw_W g s H σ) (hq : Q r σ) {args : Array Value} : ∀ t : State, t.heap = H → s.WarmedH t.vm → cw_Q g Q args s (.returned r) t := fun t ht hW => ⟨r, σ, rfl, hq, by rw [ht]; exact hw.2.moved hW.alike⟩
theorem ev_iret {v : Int32} (hd : decode Y.2.1 pc = .ok (.ireturn, 1)) (hr : Y.2.2.2.1 = some .int) (h1 : ce ≤ Y.2.2.2.2.cells) (h2 : sl ≤ Y.2.2.2.2.slots) (hq : Q (some (.int v)) σ) : Ev g Y ce sl pc L [.int v] σ Q :=
  fun p e s m args below meth c1 H locs ls hc hw hF hl => W.widen h1 h2 (W.iret hc.1 hc.2.1 (hc.2.2.2.2.2.1.trans hr) (cw_retW hw hq) hF hd hc.2.2.2.2.2.2.1)
theorem ev_zret {v : Int32} {ty : FieldType} (hd : decode Y.2.1 pc = .ok (.ireturn, 1)) (hr : Y.2.2.2.1 = some ty) (hn : narrow ty (.int v) = .int v) (h1 : ce ≤ Y.2.2.2.2.cells) (h2 : sl ≤ Y.2.2.2.2.slots) (hq : Q (some (.int v)) σ) : Ev g Y ce sl pc L [.int v] σ Q :=
  fun p e s m args below meth c1 H locs ls hc hw hF hl => W.widen h1 h2 (W.zret hc.1 hc.2.1 (hc.2.2.2.2.2.1.trans hr) hn (cw_retW hw hq) hF hd hc.2.2.2.2.2.2.1)
theorem ev_vret (hd : decode Y.2.1 pc = .ok (.return_, 1)) (hr : Y.2.2.2.1 = none) (h1 : ce ≤ Y.2.2.2.2.cells) (h2 : sl ≤ Y.2.2.2.2.slots) (hq : Q none σ) : Ev g Y ce sl pc L [] σ Q :=
  fun p e s m args below meth c1 H locs ls hc hw hF hl => W.widen h1 h2 (W.vret hc.1 hc.2.1 (hc.2.2.2.2.2.1.trans hr) (cw_retW hw hq) hF hd hc.2.2.2.2.2.2.1)
theorem ev_lret {v : Int64} (hd : decode Y.2.1 pc = .ok (.lreturn, 1)) (hr : Y.2.2.2.1 = some .long) (h1 : ce ≤ Y.2.2.2.2.cells) (h2 : sl ≤ Y.2.2.2.2.slots) (hq : Q (some (.long v)) σ) : Ev g Y ce sl pc L [.long v] σ Q :=
  fun p e s m args below meth c1 H locs ls hc hw hF hl => W.widen h1 h2 (W.lret hc.1 hc.2.1 (hc.2.2.2.2.2.1.trans hr) (cw_retW hw hq) hF hd hc.2.2.2.2.2.2.1)
theorem ev_aret {a : Nat} {t : String} (hd : decode Y.2.1 pc = .ok (.areturn, 1)) (hr : Y.2.2.2.1 = some (.object t)) (h1 : ce ≤ Y.2.2.2.2.cells) (h2 : sl ≤ Y.2.2.2.2.slots) (hq : Q (some (.ref a)) σ) : Ev g Y ce sl pc L [.ref a] σ Q :=
  fun p e s m args below meth c1 H locs ls hc hw hF hl => W.widen h1 h2 (W.aret hc.1 hc.2.1 (hc.2.2.2.2.2.1.trans hr) (Or.inl ⟨_, rfl⟩) (Or.inr ⟨_, rfl⟩) (cw_retW hw hq) hF hd hc.2.2.2.2.2.2.1)
/-! calls -/
theorem cw_blind {As : List Value} : FrameBlind (cw_Pc g As σ) := fun a U f mk q => ⟨q.1, cw_V.same (s := U) (U := U.calling f mk a) rfl q.2.1, cw_P.moved (s := U) (U := U.calling f mk a) (Vm.Alike.refl U.vm) q.2.2⟩
theorem cw_pre {s : State} {H : Heap} {As : List Value} (hw : cw_W g s H σ) : ∀ U : State, U.heap = H → s.WarmedH U.vm → cw_Pc g As σ As.toArray U := fun U hU hW => ⟨rfl, hw.1.warm hW, by rw [hU]; exact hw.2.moved hW.alike⟩
theorem cw_goes {Y2 : cw_M} {Q2 : Option Value → cw_H → Prop} {p : Program} {e : Env} {s : State} {m : MethodId} {args a : Array Value} {below : List Frame} {meth : Method} {c1 : Code} {H : Heap} {locs : List Loc} {ls : Array Slot} {st0 : List Value}
    (hr : va_Run p g.1 e Y.2.2.2.2 s m args below meth c1 H locs ce sl Y2.2.2.2.2.cells Y2.2.2.2.2.slots (F0 m pc ls st0) st (cw_Q g Q2 a) (cw_F g))
    (hc : cw_cx Y p s m args meth c1) (hw : cw_W g s H σ) (hF : ∀ q ∈ locs, cw_F g q.base) (hl : cw_lv ls Y.2.2.1 L)
    (k : ∀ r τ, Q2 r τ → Ev g Y (ce + Y2.2.2.2.2.cells) (sl + Y2.2.2.2.2.slots) (pc + 3) L (r.toList ++ st) τ Q) :
    W p g.1 e Y.2.2.2.2 s m args below meth c1 H locs ce sl (MQ below (cw_Q g Q) args s Y.2.2.2.2.cells Y.2.2.2.2.slots (cw_F g)) (F0 m pc ls st0) := by
  intro T hT X
  obtain ⟨v, st₀, t, T', L', h0, X', hL, e1, e2, ⟨r, τ, hv, hp, hb⟩, st'⟩ := hr T hT X
  cases hv
  have hal : s.vm.Alike t.vm := by rw [← e2]; exact X'.warmed.alike
  obtain ⟨t2, a1, b1⟩ := k v τ hp p e s m args below meth c1 T'.heap (locs ++ L') ls hc ⟨hw.1, by rw [e1]; exact hb.moved hal.symm⟩ (fun q hq => by
      rcases List.mem_append.mp hq with h | h
      · exact hF q h
      · exact hL q h) hl T' rfl X'
  exact ⟨t2, st' t2 a1, b1⟩
theorem cw_callB {Y2 : cw_M} {p : Program} {s : State} {m : MethodId} {args : Array Value} {meth : Method} {c1 : Code} {idx k : Nat} (hc : cw_cx Y p s m args meth c1) (h2 : cw_cd Y2) (ha : cw_ar Y2 k) (hl : Cond.methodLink Y.1.cls idx Y2.1 ∈ cw_tbl) (hR : Y2.2.2.2.2.frames + 1 ≤ Y.2.2.2.2.frames ∧ 8 + (Y2.2.2.1 + 11) + Y2.2.2.2.2.locals ≤ Y.2.2.2.2.locals) :
    CallB Y.2.2.2.2 s args Y.1.cls idx Y2.1 Y2.2.1 Y2.2.2.1 Y2.2.2.2.1 (cw_ws Y2) Y2.2.2.2.2 Y2.2.2.2.2.cells Y2.2.2.2.2.slots k :=
  callB_of (ws' := cw_tbl) k hc.ws (fun w hw => by
    rcases List.mem_cons.mp hw with h | h
    · subst h; exact ⟨h2.1, good_of_word rfl⟩
    · exact ⟨h, good_of_word (List.mem_filter.mp h).2⟩) rfl rfl rfl (hc.w h2.2) (hc.w hl) ha hR
theorem ev_callV {idx ci k : Nat} {Y2 : cw_M} {As st0 : List Value} {Q2 : Option Value → cw_H → Prop} (hd : decode Y.2.1 pc = .ok (.invokevirtual idx, 3)) (hl : cw_LV Y.1.cls idx Y2) (h2 : cw_cd Y2) (ha : cw_ar Y2 k)
    (hR : Y2.2.2.2.2.frames + 1 ≤ Y.2.2.2.2.frames ∧ 8 + (Y2.2.2.1 + 11) + Y2.2.2.2.2.locals ≤ Y.2.2.2.2.locals) (hM : Cv g Y2 (.ref (cw_z g + c) :: As) σ Q2) (hn : c < σ.1) (hK : (σ.2.1 c).1 = ci) (hC : (vwCl[ci]?).map (fun r => r.1) = some Y2.1.cls)
    (hA : As.length = k) (hst : st0 = As.reverse ++ .ref (cw_z g + c) :: st) (hW : (st.map fun v => v.category).sum ≤ 8) (hf : ce + Y2.2.2.2.2.cells ≤ Y.2.2.2.2.cells ∧ sl + Y2.2.2.2.2.slots ≤ Y.2.2.2.2.slots)
    (kk : ∀ r τ, Q2 r τ → Ev g Y (ce + Y2.2.2.2.2.cells) (sl + Y2.2.2.2.2.slots) (pc + 3) L (r.toList ++ st) τ Q) : Ev g Y ce sl pc L st0 σ Q := by
  intro p e s m args below meth c1 H locs ls hc hw hF hlv
  have hcell : ∃ cellB : Cell, H[cw_z g + c]? = some cellB ∧ cellB.vm.isStatics = false ∧ s.vm.findClass Y2.1.cls = some cellB.cls := by
    cases hr : vwCl[ci]? with
    | none => rw [hr] at hC; simp at hC
    | some r =>
      rw [hr] at hC
      have h13 : ci < 13 := (List.getElem?_eq_some_iff.mp hr).1
      obtain ⟨r2, hr2, cell, q1, q2, q3, q4⟩ := (hw.2.2.2 c hn).1 (by rw [hK]; exact h13)
      rw [hK] at q2
      refine ⟨cell, q1, by rw [q3]; rfl, ?_⟩
      have := (hw.1.2.1.1 ci r hr).2.1
      simp only [Option.map_some] at hC
      rw [q2, ← Option.some.inj hC]
      exact this
  exact cw_goes (va_runV (C := Y2.1.cls) (As := As) (rest := st) (nL := Y.2.2.1) (Ts := cw_tbl) ⟨hc.1, hc.2.1, hc.2.2.1, hc.2.2.2.1, hc.ws⟩ hM ⟨cw_callB hc h2 ha hl.1 hR, hc.w hl.2.1, hc.w hl.2.2⟩ ⟨cw_blind, hcell, cw_pre hw⟩ rfl hA hlv.1 hst (lv_room hW) hd hf) hc hw hF hlv kk
theorem ev_callS {idx k : Nat} {Y2 : cw_M} {As st0 : List Value} {Q2 : Option Value → cw_H → Prop} (hd : decode Y.2.1 pc = .ok (.invokestatic idx, 3)) (hl : cw_LS Y.1.cls idx Y2) (h2 : cw_cd Y2) (ha : cw_ar Y2 k)
    (hR : Y2.2.2.2.2.frames + 1 ≤ Y.2.2.2.2.frames ∧ 8 + (Y2.2.2.1 + 11) + Y2.2.2.2.2.locals ≤ Y.2.2.2.2.locals) (hM : Cv g Y2 As σ Q2)
    (hA : As.length = k) (hst : st0 = As.reverse ++ st) (hW : (st.map fun v => v.category).sum ≤ 8) (hf : ce + Y2.2.2.2.2.cells ≤ Y.2.2.2.2.cells ∧ sl + Y2.2.2.2.2.slots ≤ Y.2.2.2.2.slots)
    (kk : ∀ r τ, Q2 r τ → Ev g Y (ce + Y2.2.2.2.2.cells) (sl + Y2.2.2.2.2.slots) (pc + 3) L (r.toList ++ st) τ Q) : Ev g Y ce sl pc L st0 σ Q := by
  intro p e s m args below meth c1 H locs ls hc hw hF hlv
  exact cw_goes (va_runS (As := As) (rest := st) (nL := Y.2.2.1) (Ts := cw_tbl) ⟨hc.1, hc.2.1, hc.2.2.1, hc.2.2.2.1, hc.ws⟩ hM ⟨cw_callB hc h2 ha hl.1 hR, hc.w hl.2⟩ ⟨cw_blind, cw_pre hw⟩ rfl hA hlv.1 hst (lv_room hW) hd hf) hc hw hF hlv kk
theorem ev_callI {idx k : Nat} {Y2 : cw_M} {As st0 : List Value} {b : Nat} {Q2 : Option Value → cw_H → Prop} (hd : decode Y.2.1 pc = .ok (.invokespecial idx, 3)) (hl : cw_LI Y.1.cls idx Y2) (h2 : cw_cd Y2) (ha : cw_ar Y2 k) (hi : Y2.1.name = "<init>") (hv : Y2.2.2.2.1 = none)
    (hR : Y2.2.2.2.2.frames + 1 ≤ Y.2.2.2.2.frames ∧ 8 + (Y2.2.2.1 + 11) + Y2.2.2.2.2.locals ≤ Y.2.2.2.2.locals) (hM : Cv g Y2 (.ref b :: As) σ Q2)
    (hA : As.length = k) (hst : st0 = As.reverse ++ .ref b :: st) (hW : (st.map fun v => v.category).sum ≤ 8) (hf : ce + Y2.2.2.2.2.cells ≤ Y.2.2.2.2.cells ∧ sl + Y2.2.2.2.2.slots ≤ Y.2.2.2.2.slots)
    (kk : ∀ r τ, Q2 r τ → Ev g Y (ce + Y2.2.2.2.2.cells) (sl + Y2.2.2.2.2.slots) (pc + 3) L (r.toList ++ st) τ Q) : Ev g Y ce sl pc L st0 σ Q := by
  intro p e s m args below meth c1 H locs ls hc hw hF hlv
  exact cw_goes (va_runI (As := As) (rest := st) (nL := Y.2.2.1) (Ts := cw_tbl) ⟨hc.1, hc.2.1, hc.2.2.1, hc.2.2.2.1, hc.ws⟩ hM ⟨hv ▸ cw_callB hc h2 ha hl.1 hR, hi, hc.w hl.2⟩ ⟨cw_blind, cw_pre hw⟩ rfl hA hlv.1 hst (lv_room hW) hd hf) hc hw hF hlv kk
theorem cw_callN {Y2 : cw_M} {p : Program} {s : State} {H : Heap} {m : MethodId} {args : Array Value} {meth : Method} {c1 : Code} {idx k : Nat} {h : String} (hc : cw_cx Y p s m args meth c1) (hw : cw_W g s H σ) (h2 : cw_cd Y2) (ha : cw_ar Y2 k) (hl : Cond.methodLinkNest Y.1.cls idx Y2.1 h ∈ lw_tbl) (hR : Y2.2.2.2.2.frames + 1 ≤ Y.2.2.2.2.frames ∧ 8 + (Y2.2.2.1 + 11) + Y2.2.2.2.2.locals ≤ Y.2.2.2.2.locals) :
    va_CN Y.2.2.2.2 s args Y.1.cls idx Y2.1 h Y2.2.1 Y2.2.2.1 Y2.2.2.2.1 (cw_ws Y2) Y2.2.2.2.2 Y2.2.2.2.2.cells Y2.2.2.2.2.slots k :=
  va_cnB (ws' := cw_tbl) k hc.ws (fun w hw => by
    rcases List.mem_cons.mp hw with h | h
    · subst h; exact ⟨h2.1, good_of_word rfl⟩
    · exact ⟨h, good_of_word (List.mem_filter.mp h).2⟩) rfl rfl rfl (hw.1.2.2.1 _ _ _ _ hl) (hc.w h2.2) ha hR
theorem ev_callSN {idx k : Nat} {Y2 : cw_M} {As st0 : List Value} {Q2 : Option Value → cw_H → Prop} (hd : decode Y.2.1 pc = .ok (.invokestatic idx, 3)) (hl : cw_NS Y.1.cls idx Y2) (h2 : cw_cd Y2) (ha : cw_ar Y2 k)
    (hR : Y2.2.2.2.2.frames + 1 ≤ Y.2.2.2.2.frames ∧ 8 + (Y2.2.2.1 + 11) + Y2.2.2.2.2.locals ≤ Y.2.2.2.2.locals) (hM : Cv g Y2 As σ Q2)
    (hA : As.length = k) (hst : st0 = As.reverse ++ st) (hW : (st.map fun v => v.category).sum ≤ 8) (hf : ce + Y2.2.2.2.2.cells ≤ Y.2.2.2.2.cells ∧ sl + Y2.2.2.2.2.slots ≤ Y.2.2.2.2.slots)
    (kk : ∀ r τ, Q2 r τ → Ev g Y (ce + Y2.2.2.2.2.cells) (sl + Y2.2.2.2.2.slots) (pc + 3) L (r.toList ++ st) τ Q) : Ev g Y ce sl pc L st0 σ Q := by
  intro p e s m args below meth c1 H locs ls hc hw hF hlv
  obtain ⟨h, hl1, hl2⟩ := hl
  exact cw_goes (va_runSN (As := As) (rest := st) (nL := Y.2.2.1) (Ts := cw_tbl) ⟨hc.1, hc.2.1, hc.2.2.1, hc.2.2.2.1, hc.ws⟩ hM ⟨cw_callN hc hw h2 ha hl1 hR, hc.w hl2, trivial⟩ ⟨cw_blind, cw_pre hw⟩ rfl hA hlv.1 hst (lv_room hW) hd hf) hc hw hF hlv kk
theorem ev_callIN {idx k : Nat} {Y2 : cw_M} {As st0 : List Value} {b : Nat} {Q2 : Option Value → cw_H → Prop} (hd : decode Y.2.1 pc = .ok (.invokespecial idx, 3)) (hl : cw_NI Y.1.cls idx Y2) (h2 : cw_cd Y2) (ha : cw_ar Y2 k) (hi : Y2.1.name = "<init>") (hv : Y2.2.2.2.1 = none)
    (hR : Y2.2.2.2.2.frames + 1 ≤ Y.2.2.2.2.frames ∧ 8 + (Y2.2.2.1 + 11) + Y2.2.2.2.2.locals ≤ Y.2.2.2.2.locals) (hM : Cv g Y2 (.ref b :: As) σ Q2)
    (hA : As.length = k) (hst : st0 = As.reverse ++ .ref b :: st) (hW : (st.map fun v => v.category).sum ≤ 8) (hf : ce + Y2.2.2.2.2.cells ≤ Y.2.2.2.2.cells ∧ sl + Y2.2.2.2.2.slots ≤ Y.2.2.2.2.slots)
    (kk : ∀ r τ, Q2 r τ → Ev g Y (ce + Y2.2.2.2.2.cells) (sl + Y2.2.2.2.2.slots) (pc + 3) L (r.toList ++ st) τ Q) : Ev g Y ce sl pc L st0 σ Q := by
  intro p e s m args below meth c1 H locs ls hc hw hF hlv
  obtain ⟨h, hl1, hl2⟩ := hl
  exact cw_goes (va_runIN (As := As) (rest := st) (nL := Y.2.2.1) (Ts := cw_tbl) ⟨hc.1, hc.2.1, hc.2.2.1, hc.2.2.2.1, hc.ws⟩ hM ⟨hv ▸ cw_callN hc hw h2 ha hl1 hR, hi, hc.w hl2⟩ ⟨cw_blind, cw_pre hw⟩ rfl hA hlv.1 hst (lv_room hW) hd hf) hc hw hF hlv kk
theorem ev_objInit {idx b : Nat} (hd : decode Y.2.1 pc = .ok (.invokespecial idx, 3)) (h1 : Cond.methodLink Y.1.cls idx Lib.objectInit ∈ cw_tbl) (h2 : Cond.instanceMethod Lib.objectInit ∈ cw_tbl) (h3 : Cond.code Lib.objectInit ⟨#[0xb1]⟩ 1 none ∈ cw_tbl) (hfr : 1 ≤ Y.2.2.2.2.frames) (hlo : (st.map fun v => v.category).sum + 12 ≤ Y.2.2.2.2.locals)
    (kk : Ev g Y ce sl (pc + 3) L st σ Q) : Ev g Y ce sl pc L (.ref b :: st) σ Q :=
  fun p e s m args below meth c1 H locs ls hc hw hF hl => W.objInit hc.1 hc.2.1 hc.2.2.2.1 (hc.w h1) (hc.w h2) (hc.w h3) rfl (by rw [hc.2.2.1]; exact hl.1) rfl hd hfr (by show 2 * 0 + _ + 12 ≤ _; omega) (kk p e s m args below meth c1 H locs ls hc hw hF hl)
theorem ev_ldc {idx : Nat} {v : Int32} (hd : decode Y.2.1 pc = .ok (.ldc idx, 2)) (hk : Cond.constant Y.1.cls idx v ∈ cw_tbl) (kk : Ev g Y ce sl (pc + 2) L (.int v :: st) σ Q) : Ev g Y ce sl pc L st σ Q :=
  fun p e s m args below meth c1 H locs ls hc hw hF hl => lv_ldc hc.1 hc.2.1 hc.2.2.2.1 (hc.w hk) hd (kk p e s m args below meth c1 H locs ls hc hw hF hl)
theorem ev_ldcw {idx : Nat} {v : Int32} (hd : decode Y.2.1 pc = .ok (.ldc_w idx, 3)) (hk : Cond.constant Y.1.cls idx v ∈ cw_tbl) (kk : Ev g Y ce sl (pc + 3) L (.int v :: st) σ Q) : Ev g Y ce sl pc L st σ Q :=
  fun p e s m args below meth c1 H locs ls hc hw hF hl => lv_ldcw hc.1 hc.2.1 hc.2.2.2.1 (hc.w hk) hd (kk p e s m args below meth c1 H locs ls hc hw hF hl)
theorem ev_ldc2 {idx : Nat} {v : Int64} (hd : decode Y.2.1 pc = .ok (.ldc2_w idx, 3)) (hk : Cond.constantLong Y.1.cls idx v ∈ cw_tbl) (kk : Ev g Y ce sl (pc + 3) L (.long v :: st) σ Q) : Ev g Y ce sl pc L st σ Q :=
  fun p e s m args below meth c1 H locs ls hc hw hF hl => lv_ldc2 hc.1 hc.2.1 hc.2.2.2.1 (hc.w hk) hd (kk p e s m args below meth c1 H locs ls hc hw hF hl)
end EvB
