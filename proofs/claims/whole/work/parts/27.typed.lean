/-! the world behind the constructors: int fields I, rows A and J, which treaty is at hand and which text the scanner has: t -/
theorem cw_mk_u {g : cw_G} {I : Nat → Nat → Int32} {t : Bool × Bool} {c k : Nat} (x : Int32) (h : cw_R0 t c k = none) : cw_u (cw_mk g I t) c k (.int x) = cw_mk g (cw_u I c k x) t := by
  funext a b
  by_cases e : a = c ∧ b = k
  · obtain ⟨rfl, rfl⟩ := e
    simp [cw_u, cw_mk, h]
  · simp only [cw_u, cw_mk, if_neg e]
theorem cw_i0 {g : cw_G} {I : Nat → Nat → Int32} {t : Bool × Bool} {c k : Nat} (h : cw_R0 t c k = none) : cw_mk g I t c k = .int (I c k) := by unfold cw_mk; rw [h]
theorem cw_r0 {g : cw_G} {I : Nat → Nat → Int32} {t : Bool × Bool} {c k d : Nat} (h : cw_R0 t c k = some d) : cw_mk g I t c k = .ref (cw_z g + d) := by unfold cw_mk; rw [h]
section EvT
variable {g : cw_G} {Y Y2 : cw_M} {ce sl pc idx ci k c : Nat} {L : List (Option Value)} {st st0 As : List Value} {Q : Option Value → cw_H → Prop} {σ τ : cw_H} {I A : Nat → Nat → Int32} {J : Nat → Nat → Int64} {t : Bool × Bool}
theorem tv_geti (hd : decode Y.2.1 pc = .ok (.getfield idx, 3)) (hf : cw_FL Y.1.cls idx ci k) (hn : c < 120) (hK : (cw_K0 c).1 = ci) (h : cw_R0 t c k = none) (kk : Ev g Y ce sl (pc + 3) L (.int (I c k) :: st) (hp g I A J t) Q) : Ev g Y ce sl pc L (.ref (cw_z g + c) :: st) (hp g I A J t) Q := ev_get hd hf hn hK (cw_i0 h) kk
theorem tv_getr {d : Nat} (hd : decode Y.2.1 pc = .ok (.getfield idx, 3)) (hf : cw_FL Y.1.cls idx ci k) (hn : c < 120) (hK : (cw_K0 c).1 = ci) (h : cw_R0 t c k = some d) (kk : Ev g Y ce sl (pc + 3) L (.ref (cw_z g + d) :: st) (hp g I A J t) Q) : Ev g Y ce sl pc L (.ref (cw_z g + c) :: st) (hp g I A J t) Q := ev_get hd hf hn hK (cw_r0 h) kk
theorem tv_puti {x : Int32} (hd : decode Y.2.1 pc = .ok (.putfield idx, 3)) (hf : cw_FP Y.1.cls idx ci k .int) (hn : c < 120) (hK : (cw_K0 c).1 = ci) (h : cw_R0 t c k = none) (kk : Ev g Y ce sl (pc + 3) L st (hp g (cw_u I c k x) A J t) Q) : Ev g Y ce sl pc L (.int x :: .ref (cw_z g + c) :: st) (hp g I A J t) Q :=
  ev_put hd hf hn hK rfl rfl (by rw [cw_mk_u x h]; exact kk)
theorem tv_putz {x : Int32} (hd : decode Y.2.1 pc = .ok (.putfield idx, 3)) (hf : cw_FP Y.1.cls idx ci k .boolean) (hn : c < 120) (hK : (cw_K0 c).1 = ci) (h : cw_R0 t c k = none) (hx : x = 0 ∨ x = 1) (kk : Ev g Y ce sl (pc + 3) L st (hp g (cw_u I c k x) A J t) Q) : Ev g Y ce sl pc L (.int x :: .ref (cw_z g + c) :: st) (hp g I A J t) Q :=
  ev_put hd hf hn hK (by rcases hx with rfl | rfl <;> rfl) (by rcases hx with rfl | rfl <;> rfl) (by rw [cw_mk_u x h]; exact kk)
theorem ev_Vi {v : Int32} (hd : decode Y.2.1 pc = .ok (.invokevirtual idx, 3)) (hl : cw_LV Y.1.cls idx Y2) (h2 : cw_cd Y2) (ha : cw_ar Y2 k) (hR : cw_rm Y Y2) (hM : Cd g Y2 (.ref (cw_z g + c) :: As) σ (some (.int v)) τ) (hn : c < σ.1) (hK : (σ.2.1 c).1 = ci) (hC : (vwCl[ci]?).map (fun r => r.1) = some Y2.1.cls)
    (hA : As.length = k) (hst : st0 = As.reverse ++ .ref (cw_z g + c) :: st) (hW : (st.map fun v => v.category).sum ≤ 8) (hf : ce ≤ Y.2.2.2.2.cells ∧ sl ≤ Y.2.2.2.2.slots)
    (kk : Ev g Y ce sl (pc + 3) L (.int v :: st) τ Q) : Ev g Y ce sl pc L st0 σ Q := ev_V hd hl h2 ha hR hM hn hK hC hA hst hW hf kk
theorem ev_Vv (hd : decode Y.2.1 pc = .ok (.invokevirtual idx, 3)) (hl : cw_LV Y.1.cls idx Y2) (h2 : cw_cd Y2) (ha : cw_ar Y2 k) (hR : cw_rm Y Y2) (hM : Cd g Y2 (.ref (cw_z g + c) :: As) σ none τ) (hn : c < σ.1) (hK : (σ.2.1 c).1 = ci) (hC : (vwCl[ci]?).map (fun r => r.1) = some Y2.1.cls)
    (hA : As.length = k) (hst : st0 = As.reverse ++ .ref (cw_z g + c) :: st) (hW : (st.map fun v => v.category).sum ≤ 8) (hf : ce ≤ Y.2.2.2.2.cells ∧ sl ≤ Y.2.2.2.2.slots)
    (kk : Ev g Y ce sl (pc + 3) L st τ Q) : Ev g Y ce sl pc L st0 σ Q := ev_V hd hl h2 ha hR hM hn hK hC hA hst hW hf kk
theorem ev_Si {v : Int32} (hd : decode Y.2.1 pc = .ok (.invokestatic idx, 3)) (hl : cw_LS Y.1.cls idx Y2) (h2 : cw_cd Y2) (ha : cw_ar Y2 k) (hR : cw_rm Y Y2) (hM : Cd g Y2 As σ (some (.int v)) τ)
    (hA : As.length = k) (hst : st0 = As.reverse ++ st) (hW : (st.map fun v => v.category).sum ≤ 8) (hf : ce ≤ Y.2.2.2.2.cells ∧ sl ≤ Y.2.2.2.2.slots)
    (kk : Ev g Y ce sl (pc + 3) L (.int v :: st) τ Q) : Ev g Y ce sl pc L st0 σ Q := ev_S hd hl h2 ha hR hM hA hst hW hf kk
theorem ev_Sl {v : Int64} (hd : decode Y.2.1 pc = .ok (.invokestatic idx, 3)) (hl : cw_LS Y.1.cls idx Y2) (h2 : cw_cd Y2) (ha : cw_ar Y2 k) (hR : cw_rm Y Y2) (hM : Cd g Y2 As σ (some (.long v)) τ)
    (hA : As.length = k) (hst : st0 = As.reverse ++ st) (hW : (st.map fun v => v.category).sum ≤ 8) (hf : ce ≤ Y.2.2.2.2.cells ∧ sl ≤ Y.2.2.2.2.slots)
    (kk : Ev g Y ce sl (pc + 3) L (.long v :: st) τ Q) : Ev g Y ce sl pc L st0 σ Q := ev_S hd hl h2 ha hR hM hA hst hW hf kk
theorem ev_Sv (hd : decode Y.2.1 pc = .ok (.invokestatic idx, 3)) (hl : cw_LS Y.1.cls idx Y2) (h2 : cw_cd Y2) (ha : cw_ar Y2 k) (hR : cw_rm Y Y2) (hM : Cd g Y2 As σ none τ)
    (hA : As.length = k) (hst : st0 = As.reverse ++ st) (hW : (st.map fun v => v.category).sum ≤ 8) (hf : ce ≤ Y.2.2.2.2.cells ∧ sl ≤ Y.2.2.2.2.slots)
    (kk : Ev g Y ce sl (pc + 3) L st τ Q) : Ev g Y ce sl pc L st0 σ Q := ev_S hd hl h2 ha hR hM hA hst hW hf kk
theorem ev_SNi {v : Int32} (hd : decode Y.2.1 pc = .ok (.invokestatic idx, 3)) (hl : cw_NS Y.1.cls idx Y2) (h2 : cw_cd Y2) (ha : cw_ar Y2 k) (hR : cw_rm Y Y2) (hM : Cd g Y2 As σ (some (.int v)) τ)
    (hA : As.length = k) (hst : st0 = As.reverse ++ st) (hW : (st.map fun v => v.category).sum ≤ 8) (hf : ce ≤ Y.2.2.2.2.cells ∧ sl ≤ Y.2.2.2.2.slots)
    (kk : Ev g Y ce sl (pc + 3) L (.int v :: st) τ Q) : Ev g Y ce sl pc L st0 σ Q := ev_SN hd hl h2 ha hR hM hA hst hW hf kk
end EvT
/-- a truth as the machine has it -/
def cw_b (p : Prop) [Decidable p] : Int32 := if p then 1 else 0
theorem cw_b_t {p : Prop} [Decidable p] (h : p) : cw_b p = 1 := if_pos h
theorem cw_b_f {p : Prop} [Decidable p] (h : ¬ p) : cw_b p = 0 := if_neg h
theorem cw_b_01 {p : Prop} [Decidable p] : cw_b p = 0 ∨ cw_b p = 1 := by unfold cw_b; split <;> simp
theorem cw_b_n {p : Prop} [Decidable p] : narrow .boolean (.int (cw_b p)) = .int (cw_b p) := by rcases cw_b_01 (p := p) with h | h <;> rw [h] <;> rfl
theorem cw_b_eq0 {p : Prop} [Decidable p] : cw_b p = 0 ↔ ¬ p := by unfold cw_b; split <;> simp [*]
theorem cw_b_ne0 {p : Prop} [Decidable p] : ¬ cw_b p = 0 ↔ p := by unfold cw_b; split <;> simp [*]
