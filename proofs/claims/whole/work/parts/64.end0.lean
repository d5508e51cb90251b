theorem la_forget {s s' : State} {L : List Loc} {k n : Nat} (h : s.sameButNew s' L k n) (hL : ∀ q ∈ L, s.heap.size ≤ q.base) : s.sameButNew s' [] k n := by
  refine ⟨h.1, h.2.1, h.2.2.1, h.2.2.2.1, h.2.2.2.2.1, fun a c hc => ?_⟩
  obtain ⟨c', h1, h2, h3, h4⟩ := h.2.2.2.2.2 a c hc
  refine ⟨c', h1, h2, h3, fun i _ => h4 i (fun hm => ?_)⟩
  have h5 : s.heap.size ≤ a := hL _ hm
  have h6 := (Array.getElem?_eq_some_iff.mp hc).1
  omega
theorem la_mono {p : Program} {l : Launch} {e : Env} {R : Room} {s : State} {m : MethodId} {args : Array Value} {below : List Frame} {meth : Method} {c : Code} {H : Heap} {locs : List Loc} {cells slots : Nat} {Q Q2 : State → Prop} {fr : JFrame} (h : ∀ t, Q t → Q2 t) (k : W p l e R s m args below meth c H locs cells slots Q fr) : W p l e R s m args below meth c H locs cells slots Q2 fr := fun T hT X => by
  obtain ⟨t, a, b⟩ := k T hT X
  exact ⟨t, a, h t b⟩
abbrev la_N : List Cond := flatC (Jvm.Cond.and given_1 narrow_1)
set_option maxRecDepth 100000 in
theorem la_n1 : Cond.arrayOf (.static "WaveHouse$Spots" "AIMS" "[I") .int ∈ la_N := List.mem_of_getElem? (i := 10) (by rfl)
set_option maxRecDepth 100000 in
theorem la_n2 : Cond.eq (.length (.static "WaveHouse$Spots" "AIMS" "[I")) (.int 9) ∈ la_N := List.mem_of_getElem? (i := 11) (by rfl)
theorem la_m3 : ∀ j, j < 9 → la_N[12 + j]? = some (Cond.eq (.elem (.static "WaveHouse$Spots" "AIMS" "[I") (.int (Int32.ofNat j))) (.int (cw_aims j))) := by decide +kernel
theorem la_n3 : ∀ j, j < 9 → Cond.eq (.elem (.static "WaveHouse$Spots" "AIMS" "[I") (.int (Int32.ofNat j))) (.int (cw_aims j)) ∈ la_N := fun j hj => List.mem_of_getElem? (la_m3 j hj)
set_option maxRecDepth 100000 in
theorem la_n4 : Cond.eq (.static "java/lang/String" "COMPACT_STRINGS" "Z") (.int 1) ∈ la_N := List.mem_of_getElem? (i := 4) (by rfl)
set_option maxRecDepth 100000 in
theorem la_n5 : Cond.isRef (.static "jdk/internal/util/Preconditions" "SIOOBE_FORMATTER" "Ljava/util/function/BiFunction;") ∈ la_N := List.mem_of_getElem? (i := 5) (by rfl)
set_option maxRecDepth 100000 in
theorem la_n6 : Cond.exactly (.string "WaveHouse$Scanner" 60) "java/lang/String" ∈ la_N := List.mem_of_getElem? (i := 21) (by rfl)
set_option maxRecDepth 100000 in
theorem la_n7 : Cond.eq (.field (.string "WaveHouse$Scanner" 60) "java/lang/String" "coder" "B") (.int 0) ∈ la_N := List.mem_of_getElem? (i := 22) (by rfl)
set_option maxRecDepth 100000 in
theorem la_n8 : Cond.arrayOf (.field (.string "WaveHouse$Scanner" 60) "java/lang/String" "value" "[B") .byte ∈ la_N := List.mem_of_getElem? (i := 23) (by rfl)
set_option maxRecDepth 100000 in
theorem la_n9 : Cond.eq (.length (.field (.string "WaveHouse$Scanner" 60) "java/lang/String" "value" "[B")) (.int 120) ∈ la_N := List.mem_of_getElem? (i := 24) (by rfl)
theorem la_m10 : ∀ j, j < 120 → la_N[25 + j]? = some (Cond.eq (.elem (.field (.string "WaveHouse$Scanner" 60) "java/lang/String" "value" "[B") (.int (Int32.ofNat j))) (.int (cw_wb.getD j 0))) := by decide +kernel
theorem la_n10 : ∀ j, j < 120 → Cond.eq (.elem (.field (.string "WaveHouse$Scanner" 60) "java/lang/String" "value" "[B") (.int (Int32.ofNat j))) (.int (cw_wb.getD j 0)) ∈ la_N := fun j hj => List.mem_of_getElem? (la_m10 j hj)
set_option maxRecDepth 100000 in
theorem la_t1 : Cond.laysStatic "WaveHouse$Spots" "AIMS" "[I" ∈ lw_tbl := (List.mem_append_right _ (List.mem_of_getElem? (i := 683) (by rfl)))
set_option maxRecDepth 100000 in
theorem la_t2 : Cond.laysStatic "java/lang/String" "COMPACT_STRINGS" "Z" ∈ lw_tbl := (List.mem_append_right _ (List.mem_of_getElem? (i := 429) (by rfl)))
set_option maxRecDepth 100000 in
theorem la_t3 : Cond.laysStatic "jdk/internal/util/Preconditions" "SIOOBE_FORMATTER" "Ljava/util/function/BiFunction;" ∈ lw_tbl := (List.mem_append_right _ (List.mem_of_getElem? (i := 449) (by rfl)))
set_option maxRecDepth 100000 in
theorem la_t4 : Cond.stringRef "WaveHouse$Scanner" 60 cw_txt ∈ lw_tbl := (List.mem_append_right _ (List.mem_of_getElem? (i := 419) (by rfl)))
set_option maxRecDepth 100000 in
theorem la_t5 : Cond.initialized "WaveHouse$Spots" ∈ lw_tbl := (List.mem_append_right _ (List.mem_of_getElem? (i := 2) (by rfl)))
set_option maxRecDepth 100000 in
theorem la_t6 : Cond.initialized "java/lang/String" ∈ lw_tbl := (List.mem_append_right _ (List.mem_of_getElem? (i := 15) (by rfl)))
set_option maxRecDepth 100000 in
theorem la_t7 : Cond.initialized "jdk/internal/util/Preconditions" ∈ lw_tbl := (List.mem_append_right _ (List.mem_of_getElem? (i := 17) (by rfl)))
