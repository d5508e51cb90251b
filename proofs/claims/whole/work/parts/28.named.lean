/-! rows for the printed walks: values and worlds get names -/
def cw_rem (x y : Int32) : Int32 := x - x / y * y
section EvU
variable {g : cw_G} {Y Y2 : cw_M} {ce sl pc idx ci k c : Nat} {L : List (Option Value)} {st st0 As : List Value} {Q : Option Value → cw_H → Prop} {σ τ : cw_H} {I A I2 A2 : Nat → Nat → Int32} {J J2 : Nat → Nat → Int64} {t : Bool × Bool}
theorem ev_rem {x y : Int32} (hd : decode Y.2.1 pc = .ok (.irem, 1)) (hne : ¬ y = 0) (kk : Ev g Y ce sl (pc + 1) L (.int (cw_rem x y) :: st) σ Q) : Ev g Y ce sl pc L (.int y :: .int x :: st) σ Q := ev_irem hd hne kk
theorem ev_isl {x y : Int64} (h : x = y) (k : Ev g Y ce sl pc L (.long y :: st) σ Q) : Ev g Y ce sl pc L (.long x :: st) σ Q := h ▸ k
theorem tw_puti {x : Int32} (hd : decode Y.2.1 pc = .ok (.putfield idx, 3)) (hf : cw_FP Y.1.cls idx ci k .int) (hn : c < 120) (hK : (cw_K0 c).1 = ci) (h : cw_R0 t c k = none) (he : cw_u I c k x = I2) (kk : Ev g Y ce sl (pc + 3) L st (hp g I2 A J t) Q) : Ev g Y ce sl pc L (.int x :: .ref (cw_z g + c) :: st) (hp g I A J t) Q := tv_puti hd hf hn hK h (he ▸ kk)
theorem tw_putz {x : Int32} (hd : decode Y.2.1 pc = .ok (.putfield idx, 3)) (hf : cw_FP Y.1.cls idx ci k .boolean) (hn : c < 120) (hK : (cw_K0 c).1 = ci) (h : cw_R0 t c k = none) (hx : x = 0 ∨ x = 1) (he : cw_u I c k x = I2) (kk : Ev g Y ce sl (pc + 3) L st (hp g I2 A J t) Q) : Ev g Y ce sl pc L (.int x :: .ref (cw_z g + c) :: st) (hp g I A J t) Q := tv_putz hd hf hn hK h hx (he ▸ kk)
theorem tw_iast {N : Nat} {i x : Int32} (hd : decode Y.2.1 pc = .ok (.iastore, 1)) (hn : c < 120) (hK : cw_K0 c = (14, N)) (hi : vp_in i N) (he : cw_u A c i.toNatClampNeg x = A2) (kk : Ev g Y ce sl (pc + 1) L st (hp g I A2 J t) Q) : Ev g Y ce sl pc L (.int x :: .int i :: .ref (cw_z g + c) :: st) (hp g I A J t) Q := ev_iast hd hn hK hi (he ▸ kk)
theorem tw_bast {N : Nat} {i x : Int32} (hd : decode Y.2.1 pc = .ok (.bastore, 1)) (hn : c < 120) (hK : cw_K0 c = (13, N)) (hi : vp_in i N) (he : cw_u A c i.toNatClampNeg x.toInt8.toInt32 = A2) (kk : Ev g Y ce sl (pc + 1) L st (hp g I A2 J t) Q) : Ev g Y ce sl pc L (.int x :: .int i :: .ref (cw_z g + c) :: st) (hp g I A J t) Q := ev_bast hd hn hK hi (he ▸ kk)
theorem tw_zast {N : Nat} {i x : Int32} (hd : decode Y.2.1 pc = .ok (.bastore, 1)) (hn : c < 120) (hK : cw_K0 c = (17, N)) (hi : vp_in i N) (he : cw_u A c i.toNatClampNeg (vp_nar .boolean x) = A2) (kk : Ev g Y ce sl (pc + 1) L st (hp g I A2 J t) Q) : Ev g Y ce sl pc L (.int x :: .int i :: .ref (cw_z g + c) :: st) (hp g I A J t) Q := ev_zast hd hn hK hi (he ▸ kk)
theorem tw_sast {N : Nat} {i x : Int32} (hd : decode Y.2.1 pc = .ok (.sastore, 1)) (hn : c < 120) (hK : cw_K0 c = (16, N)) (hi : vp_in i N) (he : cw_u A c i.toNatClampNeg x.toInt16.toInt32 = A2) (kk : Ev g Y ce sl (pc + 1) L st (hp g I A2 J t) Q) : Ev g Y ce sl pc L (.int x :: .int i :: .ref (cw_z g + c) :: st) (hp g I A J t) Q := ev_sast hd hn hK hi (he ▸ kk)
theorem tw_last {N : Nat} {i : Int32} {x : Int64} (hd : decode Y.2.1 pc = .ok (.lastore, 1)) (hn : c < 120) (hK : cw_K0 c = (15, N)) (hi : vp_in i N) (he : cw_u J c i.toNatClampNeg x = J2) (kk : Ev g Y ce sl (pc + 1) L st (hp g I A J2 t) Q) : Ev g Y ce sl pc L (.long x :: .int i :: .ref (cw_z g + c) :: st) (hp g I A J t) Q := ev_last hd hn hK hi (he ▸ kk)
theorem ev_cut {pj : Nat} {Lj : List (Option Value)} {stj : List Value} {σj : cw_H} (h : Ev g Y ce sl pj Lj stj σj Q) (k : Ev g Y ce sl pj Lj stj σj Q → Ev g Y ce sl pc L st σ Q) : Ev g Y ce sl pc L st σ Q := k h
end EvU
def cw_le (l m : List (Option Value)) : Prop := ∀ (i : Nat) (v : Value), l[i]? = some (some v) → m[i]? = some (some v)
theorem cw_le0 {l : List (Option Value)} : cw_le l l := fun _ _ h => h
theorem cw_leS {a : Option Value} {l m : List (Option Value)} (h : cw_le l m) : cw_le (a :: l) (a :: m) := fun i v q => match i, q with
  | 0, q => q
  | i + 1, q => h i v q
theorem cw_leN {a : Option Value} {l m : List (Option Value)} (h : cw_le l m) : cw_le (none :: l) (a :: m) := fun i v q => match i, q with
  | 0, q => by simp at q
  | i + 1, q => h i v q
theorem ev_gen {g : cw_G} {Y : cw_M} {ce sl pc : Nat} {L : List (Option Value)} {st : List Value} {σ : cw_H} {Q : Option Value → cw_H → Prop} (h : ∀ Q2 : Option Value → cw_H → Prop, (∀ r τ, Q r τ → Q2 r τ) → Ev g Y ce sl pc L st σ Q2) : Ev g Y ce sl pc L st σ Q := h Q (fun _ _ q => q)
theorem cw_ite {c : Prop} {hc : Decidable c} {a b : Int32} (ha : a = 0 ∨ a = 1) (hb : b = 0 ∨ b = 1) : (@ite Int32 c hc a b) = 0 ∨ (@ite Int32 c hc a b) = 1 := by split <;> assumption
theorem cw_nz {v : Int32} (h : v = 0 ∨ v = 1) : narrow .boolean (.int v) = .int v := by rcases h with h | h <;> rw [h] <;> rfl
theorem Cd.ofF {g : cw_G} {Y : cw_M} {As : List Value} {σ τ : cw_H} {r : Option Value} (hy : plainFor Y.1 = true) (hn : (lg_sl As).length ≤ Y.2.2.1) (h : Ev g Y 0 0 0 (cw_en Y.2.2.1 As) [] σ (fun r' τ' => r' = r ∧ τ' = τ)) : Cd g Y As σ r τ := by
  unfold Cd Cv Met
  refine MetFree.of_bodySF (code := Y.2.1) (maxLocals := Y.2.2.1) (ret := Y.2.2.2.1) hy ?_ ?_
  · intro args s m h hn
    obtain ⟨meth, c, h1, h2, h3, h4, h5, h6, -, -⟩ := Cond.code_spec hn (atoms_spec (ws := cw_ws Y) h _ List.mem_cons_self)
    exact ⟨meth, c, h1, h2, h3, h4, h5, h6⟩
  · intro p e s m args below meth c s₁ B hml hP _
    have hh0 : s₁.heap = s.heap := by rw [B.state]; rfl
    obtain ⟨rfl, hW⟩ := hP
    have hl := lv_entry As (n := Y.2.2.1) hn
    have K := h p e s m As.toArray below meth c s.heap [] _ ⟨B.exec, B.bytes, hml, findClass_of_methodNamed B.named, atoms_spec (ws := cw_ws Y) B.pre, B.returns, B.notSynchronized, (name_of_methodNamed B.named B.method).1⟩ hW (fun q hq => by cases hq) ⟨hl.1, hl.2.1, fun i v hi => by
      have := cw_en_args As Y.2.2.1 0 i v hi
      rw [Nat.zero_add] at this
      exact hl.2.2 (i, v) this⟩
    rw [← lg_entry_eq] at K
    obtain ⟨t, a1, o, b1, b2, b3⟩ := K s₁ hh0 (Stand.of_body B)
    exact ⟨t, o, a1, b1, b2, ⟨b3.1, b3.2⟩⟩
