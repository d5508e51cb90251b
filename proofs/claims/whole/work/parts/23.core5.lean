/-! new cells -/
section EvN
variable {g : cw_G} {Y : cw_M} {ce sl pc : Nat} {L : List (Option Value)} {st : List Value} {Q : Option Value → cw_H → Prop} {n : Nat} {K : Nat → Nat × Nat} {V : Nat → Nat → Value} {A : Nat → Nat → Int32} {J : Nat → Nat → Int64} {σ : cw_H}
def cw_kp {α : Type} (f : Nat → α) (n : Nat) (x : α) : Nat → α := fun a => if a = n then x else f a
theorem cw_kp_s {α : Type} (f : Nat → α) (n : Nat) (x : α) : cw_kp f n x n = x := by simp [cw_kp]
theorem cw_kp_n {α : Type} (f : Nat → α) {n b : Nat} (x : α) (h : b ≠ n) : cw_kp f n x b = f b := by simp [cw_kp, h]
theorem cw_P.push {s : State} {H H' : Heap} {σ' : cw_H} (h : cw_P g s H σ) (z : H'.size = H.size + 1) (oq : ∀ q : Nat, q < H.size → H'[q]? = H[q]?) (hn : σ'.1 = σ.1 + 1) (ho : ∀ b, b ≠ σ.1 → σ'.2.1 b = σ.2.1 b ∧ σ'.2.2.1 b = σ.2.2.1 b ∧ cw_con σ' b = cw_con σ b) (hc : cw_ck g s H' σ' σ.1) : cw_P g s H' σ' := by
  have hs := h.1
  refine ⟨by omega, fun q hq => (oq q (by omega)).trans (h.2.1 q hq), fun b hb => ?_⟩
  by_cases e : b = σ.1
  · subst e; exact hc
  · obtain ⟨h1, h2, h3⟩ := ho b e
    exact (h.2.2 b (by omega)).kept (oq _ (by omega)) h1 h2 h3
theorem ev_new {idx ci N : Nat} {C : String} {T : u_T} {ty : Nat → FieldType} (hd : decode Y.2.1 pc = .ok (.new idx, 3)) (hk : cw_KC ci C T N ty) (h1 : Cond.classLink Y.1.cls idx C ∈ cw_tbl) (h2 : Cond.instantiable C N ∈ cw_tbl) (h3 : Cond.initialized C ∈ cw_tbl) (hce : ce + 1 ≤ Y.2.2.2.2.cells) (hsl : sl + N ≤ Y.2.2.2.2.slots)
    (kk : Ev g Y (ce + 1) (sl + N) (pc + 3) L (.ref (cw_z g + n) :: st) (n + 1, cw_kp K n (ci, 0), cw_kp V n (fun j => defaultValue (ty j)), A, J) Q) : Ev g Y ce sl pc L st (n, K, V, A, J) Q := by
  intro p e s m args below meth c1 H locs ls hc hw hF hl
  obtain ⟨hcl, h13, hin, hty, hnm⟩ := hk
  have hKn := hw.1.2.1.1 ci _ hcl
  refine W.newcK hc.1 hc.2.1 hc.2.2.2.1 (hc.w h1) (hc.w h2) (hc.w h3) rfl hd hce hsl hKn.2.1 (h := cw_z g + n) hw.2.1 fun H1 kC hkC e1 z1 o1 => ?_
  refine kk p e s m args below meth c1 H1 locs ls hc ⟨hw.1, hw.2.push (by rw [z1, hw.2.1]) (fun q hq => o1 q (by rw [hw.2.1] at hq; exact hq)) rfl (fun b hb => ?_) ⟨fun _ => ?_, fun q => ?_⟩⟩ hF hl
  · have hb' : b ≠ n := hb
    refine ⟨cw_kp_n _ _ hb', cw_kp_n _ _ hb', ?_⟩
    unfold cw_con
    simp only [cw_kp, if_neg hb']
  · refine ⟨(C, T, N), ?_, ?_⟩
    · show vwCl[(cw_kp K n (ci, 0) n).1]? = _
      rw [cw_kp_s]; exact hcl
    · show t_OB (cw_z g + n) (g.2.2.1 (cw_kp K n (ci, 0) n).1) N (g.2.2.2 (cw_kp K n (ci, 0) n).1) H1 (cw_kp V n (fun j => defaultValue (ty j)) n)
      rw [cw_kp_s, cw_kp_s]
      exact u_born ty hc.ws hin hKn hkC e1 hty
  · have q2 : 13 ≤ (cw_kp K n (ci, 0) n).1 := q
    rw [cw_kp_s] at q2
    exact absurd q2 (by simp; omega)
theorem ev_newa {at_ : ArrayType} {k N : Nat} {x : Int32} (hd : decode Y.2.1 pc = .ok (.newarray at_, 2)) (hat : newarray.typeOf at_ = cw_ty k) (h13 : 13 ≤ k) (hdv : defaultValue (cw_ty k) = if k = 15 then .long 0 else .int 0) (harr : Cond.arrayClass (newarray.typeOf at_) ∈ cw_tbl) (h0 : ¬ x < 0) (hN : x.toNatClampNeg = N) (hbytes : N * componentBytes (newarray.typeOf at_) ≤ 536870912) (hce : ce + 1 ≤ Y.2.2.2.2.cells) (hsl : sl + N ≤ Y.2.2.2.2.slots)
    (kk : Ev g Y (ce + 1) (sl + N) (pc + 2) L (.ref (cw_z g + n) :: st) (n + 1, cw_kp K n (k, N), V, cw_kp A n (fun _ => 0), cw_kp J n (fun _ => 0)) Q) : Ev g Y ce sl pc L (.int x :: st) (n, K, V, A, J) Q := by
  intro p e s m args below meth c1 H locs ls hc hw hF hl
  refine W.newaK hc.1 hc.2.1 (hc.w harr) rfl hd rfl h0 hN hbytes hce hsl (h := cw_z g + n) hw.2.1 fun H1 cA e1 z1 o1 hAr => ?_
  refine kk p e s m args below meth c1 H1 locs ls hc ⟨hw.1, hw.2.push (by rw [z1, hw.2.1]) (fun q hq => o1 q (by rw [hw.2.1] at hq; exact hq)) rfl (fun b hb => ?_) ⟨fun q => ?_, fun q => ⟨cA, ?_, ?_⟩⟩⟩ hF hl
  · have hb' : b ≠ n := hb
    refine ⟨cw_kp_n _ _ hb', rfl, ?_⟩
    unfold cw_con
    simp only [cw_kp, if_neg hb']
  · have q2 : (cw_kp K n (k, N) n).1 < 13 := q
    rw [cw_kp_s] at q2
    exact absurd q2 (by simp; omega)
  · show H1[cw_z g + n]? = some (arrV cA (cw_kp K n (k, N) n).2 (cw_con (n + 1, cw_kp K n (k, N), V, cw_kp A n (fun _ => 0), cw_kp J n (fun _ => 0)) n))
    rw [e1, hat, hdv]
    unfold cw_con
    simp only [cw_kp, if_true]
    by_cases hk : k = 15
    · simp only [if_pos hk]
    · simp only [if_neg hk]
  · show ArrOfT s cA (cw_ty (cw_kp K n (k, N) n).1)
    rw [cw_kp_s, ← hat]; exact hAr
/-- another picture of the same cells -/
theorem ev_same {σ' : cw_H} (kk : Ev g Y ce sl pc L st σ' Q) (hn : σ'.1 = σ.1) (hK : ∀ c, c < σ.1 → σ'.2.1 c = σ.2.1 c) (hV : ∀ c, c < σ.1 → (σ.2.1 c).1 < 13 → ∀ (k : Nat) (r : vw_C), vwCl[(σ.2.1 c).1]? = some r → k < r.2.2 → σ'.2.2.1 c k = σ.2.2.1 c k) (hA : ∀ c, c < σ.1 → 13 ≤ (σ.2.1 c).1 → ∀ j, j < (σ.2.1 c).2 → cw_con σ' c j = cw_con σ c j) : Ev g Y ce sl pc L st σ Q := by
  intro p e s m args below meth c1 H locs ls hc hw hF hl
  refine kk p e s m args below meth c1 H locs ls hc ⟨hw.1, by rw [hn]; exact hw.2.1, hw.2.2.1, fun c hc2 => ?_⟩ hF hl
  rw [hn] at hc2
  have h := hw.2.2.2 c hc2
  refine ⟨fun q => ?_, fun q => ?_⟩
  · rw [hK c hc2] at q ⊢
    obtain ⟨r, a, b⟩ := h.1 q
    exact ⟨r, a, b.to (fun k hk => (hV c hc2 q k r a hk).symm)⟩
  · rw [hK c hc2] at q ⊢
    obtain ⟨cA, a, b⟩ := h.2 q
    refine ⟨cA, ?_, b⟩
    rw [a]
    congr 1
    unfold arrV
    congr 1
    apply congrArg
    funext j
    exact (hA c hc2 q j.1 j.2).symm
end EvN
/-! contracts with one outcome -/
def Cd (g : cw_G) (Y : cw_M) (As : List Value) (σ : cw_H) (r : Option Value) (τ : cw_H) : Prop := Cv g Y As σ (fun r' τ' => r' = r ∧ τ' = τ)
def Ed (g : cw_G) (Y : cw_M) (ce sl pc : Nat) (L : List (Option Value)) (st : List Value) (σ : cw_H) (r : Option Value) (τ : cw_H) : Prop := Ev g Y ce sl pc L st σ (fun r' τ' => r' = r ∧ τ' = τ)
theorem Cd.of {g : cw_G} {Y : cw_M} {As : List Value} {σ τ : cw_H} {r : Option Value} (hy : plainName Y.1.cls = true) (hn : (lg_sl As).length ≤ Y.2.2.1) (h : Ev g Y 0 0 0 (cw_en Y.2.2.1 As) [] σ (fun r' τ' => r' = r ∧ τ' = τ)) : Cd g Y As σ r τ := Cv.of hy hn h
section EvC
variable {g : cw_G} {Y Y2 : cw_M} {ce sl pc idx ci k c : Nat} {L : List (Option Value)} {st st0 As : List Value} {Q : Option Value → cw_H → Prop} {σ τ : cw_H}
abbrev cw_rm (Y Y2 : cw_M) : Prop := (Y2.2.2.2.2.frames + 1 ≤ Y.2.2.2.2.frames ∧ 8 + (Y2.2.2.1 + 11) + Y2.2.2.2.2.locals ≤ Y.2.2.2.2.locals) ∧ Y2.2.2.2.2.cells = 0 ∧ Y2.2.2.2.2.slots = 0
theorem ev_V {r : Option Value} (hd : decode Y.2.1 pc = .ok (.invokevirtual idx, 3)) (hl : cw_LV Y.1.cls idx Y2) (h2 : cw_cd Y2) (ha : cw_ar Y2 k) (hR : cw_rm Y Y2) (hM : Cd g Y2 (.ref (cw_z g + c) :: As) σ r τ) (hn : c < σ.1) (hK : (σ.2.1 c).1 = ci) (hC : (vwCl[ci]?).map (fun r => r.1) = some Y2.1.cls)
    (hA : As.length = k) (hst : st0 = As.reverse ++ .ref (cw_z g + c) :: st) (hW : (st.map fun v => v.category).sum ≤ 8) (hf : ce ≤ Y.2.2.2.2.cells ∧ sl ≤ Y.2.2.2.2.slots)
    (kk : Ev g Y ce sl (pc + 3) L (r.toList ++ st) τ Q) : Ev g Y ce sl pc L st0 σ Q :=
  ev_callV hd hl h2 ha hR.1 hM hn hK hC hA hst hW (by rw [hR.2.1, hR.2.2]; exact hf) (fun r' τ' h => by rw [hR.2.1, hR.2.2, h.1, h.2]; exact kk)
theorem ev_S {r : Option Value} (hd : decode Y.2.1 pc = .ok (.invokestatic idx, 3)) (hl : cw_LS Y.1.cls idx Y2) (h2 : cw_cd Y2) (ha : cw_ar Y2 k) (hR : cw_rm Y Y2) (hM : Cd g Y2 As σ r τ)
    (hA : As.length = k) (hst : st0 = As.reverse ++ st) (hW : (st.map fun v => v.category).sum ≤ 8) (hf : ce ≤ Y.2.2.2.2.cells ∧ sl ≤ Y.2.2.2.2.slots)
    (kk : Ev g Y ce sl (pc + 3) L (r.toList ++ st) τ Q) : Ev g Y ce sl pc L st0 σ Q :=
  ev_callS hd hl h2 ha hR.1 hM hA hst hW (by rw [hR.2.1, hR.2.2]; exact hf) (fun r' τ' h => by rw [hR.2.1, hR.2.2, h.1, h.2]; exact kk)
theorem ev_SN {r : Option Value} (hd : decode Y.2.1 pc = .ok (.invokestatic idx, 3)) (hl : cw_NS Y.1.cls idx Y2) (h2 : cw_cd Y2) (ha : cw_ar Y2 k) (hR : cw_rm Y Y2) (hM : Cd g Y2 As σ r τ)
    (hA : As.length = k) (hst : st0 = As.reverse ++ st) (hW : (st.map fun v => v.category).sum ≤ 8) (hf : ce ≤ Y.2.2.2.2.cells ∧ sl ≤ Y.2.2.2.2.slots)
    (kk : Ev g Y ce sl (pc + 3) L (r.toList ++ st) τ Q) : Ev g Y ce sl pc L st0 σ Q :=
  ev_callSN hd hl h2 ha hR.1 hM hA hst hW (by rw [hR.2.1, hR.2.2]; exact hf) (fun r' τ' h => by rw [hR.2.1, hR.2.2, h.1, h.2]; exact kk)
end EvC
