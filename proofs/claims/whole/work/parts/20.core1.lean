/-! THE CLOSED WORLD: all cells made since the law's entry, in the order of their making; cell number c lies at cw_z + c -/
abbrev cw_G : Type := Launch × State × (Nat → ClassId) × (Nat → Nat → Nat)
/-- how many cells; the kind and length of each; the fields' values; what int (byte, short, boolean) rows hold; what long rows hold -/
abbrev cw_H : Type := Nat × (Nat → Nat × Nat) × (Nat → Nat → Value) × (Nat → Nat → Int32) × (Nat → Nat → Int64)
/-- a method: name, bytes, locals, what it returns, its room -/
abbrev cw_M : Type := MethodName × ByteArray × Nat × Option FieldType × Room
def cw_z (g : cw_G) : Nat := g.2.1.heap.size
def cw_u {α : Type} (f : Nat → Nat → α) (c k : Nat) (x : α) : Nat → Nat → α := fun a b => if a = c ∧ b = k then x else f a b
def cw_ty (k : Nat) : FieldType := if k = 13 then .byte else if k = 14 then .int else if k = 15 then .long else if k = 16 then .short else .boolean
def cw_con (σ : cw_H) (c : Nat) : Nat → Value := if (σ.2.1 c).1 = 15 then fun j => .long (σ.2.2.2.2 c j) else fun j => .int (σ.2.2.2.1 c j)
def cw_ck (g : cw_G) (s : State) (H : Heap) (σ : cw_H) (c : Nat) : Prop :=
  ((σ.2.1 c).1 < 13 → ∃ r : vw_C, vwCl[(σ.2.1 c).1]? = some r ∧ t_OB (cw_z g + c) (g.2.2.1 (σ.2.1 c).1) r.2.2 (g.2.2.2 (σ.2.1 c).1) H (σ.2.2.1 c)) ∧
  (13 ≤ (σ.2.1 c).1 → ∃ cA : ClassId, H[cw_z g + c]? = some (arrV cA (σ.2.1 c).2 (cw_con σ c)) ∧ ArrOfT s cA (cw_ty (σ.2.1 c).1))
/-! what the old heap holds: the static row AIMS, the constant text of words -/
def cw_txt : String := "we      they    yield   from    until   if      and     band    hour    day     land    aim     power   since   notice  "
def cw_wb : List Int32 := [119, 101, 32, 32, 32, 32, 32, 32, 116, 104, 101, 121, 32, 32, 32, 32, 121, 105, 101, 108, 100, 32, 32, 32, 102, 114, 111, 109, 32, 32, 32, 32, 117, 110, 116, 105, 108, 32, 32, 32, 105, 102, 32, 32, 32, 32, 32, 32, 97, 110, 100, 32, 32, 32, 32, 32, 98, 97, 110, 100, 32, 32, 32, 32, 104, 111, 117, 114, 32, 32, 32, 32, 100, 97, 121, 32, 32, 32, 32, 32, 108, 97, 110, 100, 32, 32, 32, 32, 97, 105, 109, 32, 32, 32, 32, 32, 112, 111, 119, 101, 114, 32, 32, 32, 115, 105, 110, 99, 101, 32, 32, 32, 110, 111, 116, 105, 99, 101, 32, 32]
def cw_aims (j : Nat) : Int32 := ([7, 0, 1, 6, 0, 2, 5, 4, 3] : List Int32).getD j 0
def cw_A (g : cw_G) : Nat → Prop := fun q => cw_z g ≤ q
def cw_X0 (g : cw_G) (q : Nat × Nat × Nat) (s : State) : Prop :=
  va_Z "WaveHouse$Spots" "AIMS" "[I" (.ref q.1) (cw_A g) s g.2.1.heap ∧ va_T .int q.1 9 (fun j => .int (cw_aims j)) (cw_A g) s g.2.1.heap ∧ va_Z "java/lang/String" "COMPACT_STRINGS" "Z" (.int 1) (cw_A g) s g.2.1.heap ∧
  vk_R "WaveHouse$Scanner" 60 cw_txt q.2.1 s ∧ vk_S 1 [120] [cw_wb] (fun _ => q.2.1) (fun _ => q.2.2) (cw_A g) s g.2.1.heap ∧ va_Zq "jdk/internal/util/Preconditions" "SIOOBE_FORMATTER" "Ljava/util/function/BiFunction;" (cw_A g) s g.2.1.heap
noncomputable def cw_ad (g : cw_G) : Nat × Nat × Nat := Classical.epsilon (fun q => cw_X0 g q g.2.1)
def cw_X (g : cw_G) (s : State) : Prop := cw_X0 g (cw_ad g) s
theorem cw_X.warm {g : cw_G} {s U : State} (hW : s.WarmedH U.vm) (h : cw_X g s) : cw_X g U := ⟨va_Z.moved hW.alike h.1, va_T.moved hW.alike h.2.1, va_Z.moved hW.alike h.2.2.1, vk_R.warm hW h.2.2.2.1, vk_S.moved hW.alike h.2.2.2.2.1, va_Zq.moved hW.alike h.2.2.2.2.2⟩
theorem cw_X.same {g : cw_G} {s U : State} (hq : s.vm = U.vm) (h : cw_X g s) : cw_X g U := ⟨va_Z.moved (hq ▸ Vm.Alike.refl s.vm) h.1, va_T.moved (hq ▸ Vm.Alike.refl s.vm) h.2.1, va_Z.moved (hq ▸ Vm.Alike.refl s.vm) h.2.2.1, vk_R.same hq.symm h.2.2.2.1, vk_S.moved (hq ▸ Vm.Alike.refl s.vm) h.2.2.2.2.1, va_Zq.moved (hq ▸ Vm.Alike.refl s.vm) h.2.2.2.2.2⟩
def cw_V (g : cw_G) (s : State) : Prop := g.2.1.vm.Alike s.vm ∧ va_K (g.2.2.1, g.2.2.2) vwCl [] s ∧ (∀ (a : String) (i : Nat) (x : MethodName) (h : String), Cond.methodLinkNest a i x h ∈ lw_tbl → va_Nw (.methodLinkNest a i x h) s) ∧ cw_X g s
def cw_P (g : cw_G) (s : State) (H : Heap) (σ : cw_H) : Prop := H.size = cw_z g + σ.1 ∧ (∀ q, q < cw_z g → H[q]? = g.2.1.heap[q]?) ∧ ∀ c, c < σ.1 → cw_ck g s H σ c
def cw_W (g : cw_G) (s : State) (H : Heap) (σ : cw_H) : Prop := cw_V g s ∧ cw_P g s H σ
theorem cw_ck.moved {g : cw_G} {s U : State} {H : Heap} {σ : cw_H} {c : Nat} (hvm : s.vm.Alike U.vm) (h : cw_ck g s H σ c) : cw_ck g U H σ c :=
  ⟨h.1, fun q => by obtain ⟨cA, a, b⟩ := h.2 q; exact ⟨cA, a, arrOfT_moved hvm b⟩⟩
theorem cw_P.moved {g : cw_G} {s U : State} {H : Heap} {σ : cw_H} (hvm : s.vm.Alike U.vm) (h : cw_P g s H σ) : cw_P g U H σ :=
  ⟨h.1, h.2.1, fun c hc => (h.2.2 c hc).moved hvm⟩
theorem cw_V.warm {g : cw_G} {s U : State} (hW : s.WarmedH U.vm) (h : cw_V g s) : cw_V g U :=
  ⟨h.1.trans hW.alike, va_K.moved hW.alike h.2.1, fun a i x w hm => va_Nw.warmM hW (h.2.2.1 a i x w hm), h.2.2.2.warm hW⟩
theorem cw_V.same {g : cw_G} {s U : State} (hq : s.vm = U.vm) (h : cw_V g s) : cw_V g U :=
  ⟨hq ▸ h.1, va_K.moved (hq ▸ Vm.Alike.refl s.vm) h.2.1, fun a i x w hm => va_Nw.same rfl hq (h.2.2.1 a i x w hm), h.2.2.2.same hq⟩
/-- the words that hold all along -/
def cw_tbl : List Cond := lw_tbl.filter goodWord
def cw_ws (Y : cw_M) : List Cond := Cond.code Y.1 Y.2.1 Y.2.2.1 Y.2.2.2.1 :: cw_tbl
theorem cw_mem {w : Cond} (h : w ∈ lw_tbl) (hg : goodWord w = true) : w ∈ cw_tbl := List.mem_filter.mpr ⟨h, hg⟩
theorem cw_good {big : List Cond} (hb : ∀ w ∈ cw_tbl, w ∈ big) {ws : List Cond} (h : ∀ w ∈ ws, w ∈ cw_tbl) : GoodIn big ws := fun w hw => ⟨hb w (h w hw), good_of_word (List.mem_filter.mp (h w hw)).2⟩
/-! locals -/
def cw_lv (ls : Array Slot) (nL : Nat) (L : List (Option Value)) : Prop := ls.size = nL ∧ lv_wf ls ∧ ∀ (i : Nat) (v : Value), L[i]? = some (some v) → ls[i]? = some (.val v)
def cw_pr (L : List (Option Value)) : List (Nat × Value) := L.zipIdx.filterMap (fun q => q.1.map (fun v => (q.2, v)))
theorem cw_pr_mem {L : List (Option Value)} {q : Nat × Value} : q ∈ cw_pr L ↔ L[q.1]? = some (some q.2) := by
  unfold cw_pr
  rw [List.mem_filterMap]
  constructor
  · rintro ⟨⟨o, i⟩, h1, h2⟩
    have h3 := List.mem_zipIdx_iff_getElem?.mp h1
    cases o with
    | none => simp at h2
    | some v =>
      simp at h2
      subst h2
      exact h3
  · intro h
    exact ⟨(some q.2, q.1), List.mem_zipIdx_iff_getElem?.mpr h, by simp⟩
theorem cw_lv.has {ls : Array Slot} {nL : Nat} {L : List (Option Value)} (h : cw_lv ls nL L) : lv_has ls nL (cw_pr L) := ⟨h.1, h.2.1, fun q hq => h.2.2 q.1 q.2 (cw_pr_mem.mp hq)⟩
def cw_nl : Option Value → Bool
  | some v => v.category == 1
  | none => true
theorem cw_lv.set1 {ls : Array Slot} {nL : Nat} {L : List (Option Value)} {i : Nat} {v : Value}
    (h : lv_has ls nL ((i, v) :: (cw_pr L).filter (fun q => !(q.1 == i) && !(q.1 + 1 == i && q.2.category == 2)))) (hn : ∀ j w, j + 1 = i → L[j]? = some (some w) → w.category = 1) : cw_lv ls nL (L.set i (some v)) := by
  refine ⟨h.1, h.2.1, fun j w hj => ?_⟩
  by_cases e : j = i
  · subst e
    rw [List.getElem?_set_self'] at hj
    cases hL : L[j]? with
    | none => rw [hL] at hj; simp at hj
    | some o => rw [hL] at hj; simp at hj; subst hj; exact h.2.2 (j, v) List.mem_cons_self
  · rw [List.getElem?_set_ne (fun q => e q.symm)] at hj
    refine h.2.2 (j, w) (List.mem_cons_of_mem _ (List.mem_filter.mpr ⟨cw_pr_mem.mpr hj, ?_⟩))
    have h1 : (j == i) = false := by simpa using e
    by_cases e2 : j + 1 = i
    · have := hn j w e2 hj
      simp [h1, this]
    · simp [h1, e2]
theorem cw_lv.set2 {ls : Array Slot} {nL : Nat} {L : List (Option Value)} {i : Nat} {v : Value}
    (h : lv_has ls nL ((i, v) :: (cw_pr L).filter (fun q => !(q.1 == i) && (!(q.1 == i + 1) && !(q.1 + 1 == i && q.2.category == 2))))) (hn : ∀ j w, j + 1 = i → L[j]? = some (some w) → w.category = 1) : cw_lv ls nL ((L.set i (some v)).set (i + 1) none) := by
  refine ⟨h.1, h.2.1, fun j w hj => ?_⟩
  by_cases e : j = i + 1
  · subst e
    rw [List.getElem?_set_self'] at hj
    cases hL : (L.set i (some v))[i + 1]? with
    | none => rw [hL] at hj; simp at hj
    | some o => rw [hL] at hj; simp at hj
  · rw [List.getElem?_set_ne (fun q => e q.symm)] at hj
    by_cases e2 : j = i
    · subst e2
      rw [List.getElem?_set_self'] at hj
      cases hL : L[j]? with
      | none => rw [hL] at hj; simp at hj
      | some o => rw [hL] at hj; simp at hj; subst hj; exact h.2.2 (j, v) List.mem_cons_self
    · rw [List.getElem?_set_ne (fun q => e2 q.symm)] at hj
      refine h.2.2 (j, w) (List.mem_cons_of_mem _ (List.mem_filter.mpr ⟨cw_pr_mem.mpr hj, ?_⟩))
      have h1 : (j == i) = false := by simpa using e2
      have h3 : (j == i + 1) = false := by simpa using e
      by_cases e4 : j + 1 = i
      · have := hn j w e4 hj
        simp [h1, h3, this]
      · simp [h1, h3, e4]
/-! the judgement -/
def cw_cx (Y : cw_M) (p : Program) (s : State) (m : MethodId) (args : Array Value) (meth : Method) (c : Code) : Prop :=
  p.tables.exec = Jvm.exec ∧ c.code = Y.2.1 ∧ c.maxLocals = Y.2.2.1 ∧ s.vm.findClass Y.1.cls = some m.cls ∧ (∀ w ∈ cw_ws Y, w.before args s = true) ∧ meth.sig.returnType = Y.2.2.2.1 ∧ meth.locks = false ∧ meth.name = Y.1.name
def cw_Q (g : cw_G) (Q : Option Value → cw_H → Prop) : Array Value → State → Outcome → State → Prop := fun _ _ o t => ∃ (r : Option Value) (σ : cw_H), o = .returned r ∧ Q r σ ∧ cw_P g t t.heap σ
def cw_F (g : cw_G) : Addr → Prop := fun q => cw_z g ≤ q
def Ev (g : cw_G) (Y : cw_M) (ce sl pc : Nat) (L : List (Option Value)) (st : List Value) (σ : cw_H) (Q : Option Value → cw_H → Prop) : Prop :=
  ∀ (p : Program) (e : Env) (s : State) (m : MethodId) (args : Array Value) (below : List Frame) (meth : Method) (c : Code) (H : Heap) (locs : List Loc) (ls : Array Slot),
    cw_cx Y p s m args meth c → cw_W g s H σ → (∀ q ∈ locs, cw_F g q.base) → cw_lv ls Y.2.2.1 L →
    W p g.1 e Y.2.2.2.2 s m args below meth c H locs ce sl (MQ below (cw_Q g Q) args s Y.2.2.2.2.cells Y.2.2.2.2.slots (cw_F g)) (F0 m pc ls st)
def cw_Pc (g : cw_G) (As : List Value) (σ : cw_H) : Array Value → State → Prop := fun a U => a = As.toArray ∧ cw_W g U U.heap σ
/-- the contract of a method: from the world σ with these arguments it returns r and leaves σ' with Q r σ' -/
def Cv (g : cw_G) (Y : cw_M) (As : List Value) (σ : cw_H) (Q : Option Value → cw_H → Prop) : Prop :=
  Met g.1 Y.1 (cw_ws Y) Y.2.2.2.2 (cw_Pc g As σ) (cw_Q g Q) Y.2.2.2.2.cells Y.2.2.2.2.slots (cw_F g)
def cw_en (nL : Nat) : List Value → List (Option Value)
  | [] => List.replicate nL none
  | v :: vs => if v.category = 2 then some v :: none :: cw_en (nL - 2) vs else some v :: cw_en (nL - 1) vs
theorem cw_en_args : ∀ (vs : List Value) (n i : Nat) (j : Nat) (v : Value), (cw_en n vs)[j]? = some (some v) → (i + j, v) ∈ lv_args i vs := by
  intro vs
  induction vs with
  | nil =>
    intro n i j v h
    simp only [cw_en] at h
    rw [List.getElem?_replicate] at h
    split at h <;> simp at h
  | cons w vs ih =>
    intro n i j v h
    simp only [cw_en] at h
    by_cases hc : w.category = 2
    · rw [if_pos hc] at h
      match j, h with
      | 0, h => simp at h; subst h; simp [lv_args]
      | 1, h => simp at h
      | j + 2, h =>
        simp at h
        have := ih (n - 2) (i + 2) j v h
        simp only [lv_args, if_pos hc]
        exact List.mem_cons_of_mem _ (by rw [show i + (j + 2) = i + 2 + j by omega]; exact this)
    · rw [if_neg hc] at h
      match j, h with
      | 0, h => simp at h; subst h; simp [lv_args]
      | j + 1, h =>
        simp at h
        have := ih (n - 1) (i + 1) j v h
        simp only [lv_args, if_neg hc]
        exact List.mem_cons_of_mem _ (by rw [show i + (j + 1) = i + 1 + j by omega]; exact this)
theorem Cv.of {g : cw_G} {Y : cw_M} {As : List Value} {σ : cw_H} {Q : Option Value → cw_H → Prop} (hy : plainName Y.1.cls = true) (hn : (lg_sl As).length ≤ Y.2.2.1) (h : Ev g Y 0 0 0 (cw_en Y.2.2.1 As) [] σ Q) : Cv g Y As σ Q := by
  refine Met.ofW (cc := Y.2.1) (maxL := Y.2.2.1) (ret := Y.2.2.2.1) hy rfl ?_
  intro p e s m args below meth c s₁ B hml hv
  obtain ⟨rfl, hW⟩ := hv
  rw [lg_entry_eq]
  have hl := lv_entry As (n := Y.2.2.1) hn
  refine h p e s m As.toArray below meth c s.heap [] _ ⟨B.exec, B.bytes, hml, findClass_of_methodNamed B.named, atoms_spec (ws := cw_ws Y) B.pre, B.returns, B.notSynchronized, (name_of_methodNamed B.named B.method).1⟩ hW (fun q hq => by cases hq) ⟨hl.1, hl.2.1, fun i v hi => ?_⟩
  have := cw_en_args As Y.2.2.1 0 i v hi
  rw [Nat.zero_add] at this
  exact hl.2.2 (i, v) this
