def R_law : String := "WaveHouseLaw"
def lw_P (b : Addr) (xs : List Int32) (args : Array Value) (s : State) : Prop := args = #[.ref b] ∧ s.IntsAt b xs ∧ xs.length ≤ 3584 ∧ (Jvm.Cond.and given_1 narrow_1).before args s = true
def lw_Q (_ : Array Value) (s : State) (o : Outcome) (t : State) : Prop := o = .returned (some (.int 1)) ∧ Framed s o t [] 600000 7302250
def lw_Z (below : List Frame) (a : Array Value) (s : State) : State → Prop := fun t => ∃ o, t.status = .running ∧ Ended t below o ∧ lw_Q a s o t
/-- the law's own end, with 1 on the stack, nothing written that was there before, its room as the claim has it -/
theorem lw_ret {p : Program} {l : Launch} {e : Env} {s : State} {m : MethodId} {below : List Frame} {meth : Method} {c : Code} {b : Nat} (hx : p.tables.exec = Jvm.exec) (hb : c.code = code) (hr : meth.sig.returnType = ret) (hlocks : meth.locks = false) {pc : Nat} {H : Heap} {ls : Array Slot} (hdg : decode code pc = .ok (.ireturn, 1)) : W p l e room_1 s m #[Value.ref b] below meth c H [] 600000 7302250 (lw_Z below #[Value.ref b] s) (F0 m pc ls [.int 1]) := by
  intro T hT X
  obtain ⟨fs, hret, hrun, hended, hW, hframe⟩ := X.leave (v := some (.int 1)) (hlocks := hlocks) (fun h => by rw [hr] at h; cases h)
  have hmeth' : T.vm.method? m = some meth := X.method'
  refine ⟨T.setFrames fs, ?_, .returned (some (.int 1)), hrun, hended, rfl, ⟨_, rfl⟩, hW, hframe⟩
  jvm_step X.here [X.here.top, hx, hb, hdg, hmeth', hr, ret, narrow_b1]
  (try refine ⟨rfl, ?_⟩); (try refine ⟨rfl, ?_⟩)
  first | (intro acts; rw [hret _ acts rfl rfl rfl]) | rw [hret _ _ rfl rfl rfl]
  exact Steps.refl _
/-- what holds at the law's entry: the machine, the code, the tables' words (any of lw_tbl by 'hts w (by decide +kernel)'), the script of L ints xs at the cell b, what the Statement gives of the start (any of its parts by flat_of_before) -/
def lw_At (p : Program) (s : State) (m : MethodId) (meth : Method) (c : Code) (b L : Nat) (xs : Nat → Int32) : Prop :=
  p.tables.exec = Jvm.exec ∧ c.code = code ∧ meth.sig.returnType = ret ∧ c.maxLocals = 4 ∧ s.vm.findClass R_law = some m.cls ∧ (∀ w ∈ lw_tbl, w.before #[Value.ref b] s = true) ∧ va_X b L xs s s.heap ∧ b < s.heap.size ∧ meth.locks = false ∧ (Jvm.Cond.and given_1 narrow_1).before #[Value.ref b] s = true ∧ (Jvm.Cond.code x code maxLocals ret).before #[Value.ref b] s = true ∧ meth.name = "law"
theorem la_X {g : cw_G} {b : Nat} (hts : ∀ w ∈ lw_tbl, w.before #[Value.ref b] g.2.1 = true) (hgv : (Jvm.Cond.and given_1 narrow_1).before #[Value.ref b] g.2.1 = true) : cw_X g g.2.1 := by
  have hn : ∀ w ∈ la_N, w.before #[Value.ref b] g.2.1 = true := flat_of_before _ hgv
  have hA : ∀ a : Nat, a < g.2.1.heap.size → ¬ cw_A g a := fun a h q => absurd q (Nat.not_le.mpr h)
  obtain ⟨ta, ea, hT⟩ := va_Tof (tm := .static "WaveHouse$Spots" "AIMS" "[I") (ty := .int) (N := 9) (f := fun j => .int (cw_aims j)) (A := cw_A g) (by decide) (hn _ la_n1) (va_eqt (hn _ la_n2)) (fun j hj => va_eqt (hn _ (la_n3 j hj))) hA
  have z0 : ∀ i : Nat, i < 1 → i = 0 := fun i h => by omega
  have q1 : ∀ i : Nat, i < 1 → ([120] : List Nat).getD i 0 < 2 ^ 31 := fun i hi => by rw [z0 i hi]; decide
  have q2 : ∀ i : Nat, i < 1 → (Cond.eq (.length (.field (.string "WaveHouse$Scanner" 60) "java/lang/String" "value" "[B")) (.int (Int32.ofNat (([120] : List Nat).getD i 0)))).before #[Value.ref b] g.2.1 = true := fun i hi => by rw [z0 i hi]; exact hn _ la_n9
  have q3 : ∀ i : Nat, i < 1 → ∀ j : Nat, j < ([120] : List Nat).getD i 0 → (Cond.eq (.elem (.field (.string "WaveHouse$Scanner" 60) "java/lang/String" "value" "[B") (.int (Int32.ofNat j))) (.int ((([cw_wb] : List (List Int32)).getD i []).getD j 0))).before #[Value.ref b] g.2.1 = true := fun i hi j hj => by
    rw [z0 i hi] at hj ⊢
    exact hn _ (la_n10 j hj)
  obtain ⟨adK, adV, hS, hK⟩ := vk_Sof (N := 1) (tm := fun _ => .string "WaveHouse$Scanner" 60) (len := [120]) (byt := [cw_wb]) (A := cw_A g) q1 (fun _ _ => hn _ la_n6) (fun _ _ => hn _ la_n7) (fun _ _ => hn _ la_n8) q2 q3 (fun i j hi hj hij => by omega) hA
  refine Classical.epsilon_spec (p := fun q => cw_X0 g q g.2.1) ⟨(ta, adK 0, adV 0), va_Zof (hts _ la_t1) (hts _ la_t5) ea hA, hT, va_Zof (hts _ la_t2) (hts _ la_t6) (va_eqi (hn _ la_n4)) hA, vk_R.of (hts _ la_t4) (hK 0 (by decide)), ⟨fun i hi => ?_, fun i j hi hj _ => by omega⟩, va_Zqof (hts _ la_t3) (hts _ la_t7) (hn _ la_n5) hA⟩
  obtain rfl : i = 0 := by omega
  exact hS.1 0 hi

/-- the law, from its entry, over a relation that both objects keep -/
theorem la_whole {p : Program} {e : Env} {s : State} {m : MethodId} {below : List Frame} {meth : Method} {c : Code} (l : Launch) {Iv : cw_IR} (hI : Iv cw_I0 cw_A0 cw_J0 (false, false)) (hOK : ∀ g : cw_G, cw_OKs g Iv) {b L : Nat} {xs : Nat → Int32} (hL : L ≤ 3584) (C0 : lw_At p s m meth c b L xs) : W p l e room_1 s m #[Value.ref b] below meth c s.heap [] 0 0 (lw_Z below #[Value.ref b] s) (entryFrame m ([Value.ref b] : List Value).toArray 4) := by
  obtain ⟨hx, hb, hr, hml, hown, hts, hX, hbl, hlocks, hgv, hcode, hname⟩ := C0
  have ht : ∀ w ∈ cw_tbl, w.before #[Value.ref b] s = true := fun w h => hts w (List.mem_filter.mp h).1
  obtain ⟨c0, i0, k0⟩ := u_known (n := 2) ht kc_0.2.2.1 (ht _ ci_0)
  obtain ⟨c1, i1, k1⟩ := u_known (n := 10) ht kc_1.2.2.1 (ht _ ci_1)
  obtain ⟨c2, i2, k2⟩ := u_known (n := 3) ht kc_2.2.2.1 (ht _ ci_2)
  obtain ⟨c3, i3, k3⟩ := u_known (n := 7) ht kc_3.2.2.1 (ht _ ci_3)
  obtain ⟨c4, i4, k4⟩ := u_known (n := 12) ht kc_4.2.2.1 (ht _ ci_4)
  obtain ⟨c5, i5, k5⟩ := u_known (n := 8) ht kc_5.2.2.1 (ht _ ci_5)
  obtain ⟨c6, i6, k6⟩ := u_known (n := 4) ht kc_6.2.2.1 (ht _ ci_6)
  obtain ⟨c7, i7, k7⟩ := u_known (n := 6) ht kc_7.2.2.1 (ht _ ci_7)
  obtain ⟨c8, i8, k8⟩ := u_known (n := 2) ht kc_8.2.2.1 (ht _ ci_8)
  obtain ⟨c9, i9, k9⟩ := u_known (n := 4) ht kc_9.2.2.1 (ht _ ci_9)
  obtain ⟨c10, i10, k10⟩ := u_known (n := 9) ht kc_10.2.2.1 (ht _ ci_10)
  obtain ⟨c11, i11, k11⟩ := u_known (n := 15) ht kc_11.2.2.1 (ht _ ci_11)
  obtain ⟨c12, i12, k12⟩ := u_known (n := 77) ht kc_12.2.2.1 (ht _ ci_12)
  obtain ⟨dC, dI, hKc⟩ : ∃ (dC : Nat → ClassId) (dI : Nat → Nat → Nat), ∀ (k : Nat) (q : vw_C), vwCl[k]? = some q → u_Kn s q.1 q.2.1 q.2.2 (dC k) (dI k) := by
    refine ⟨fun k => [c0, c1, c2, c3, c4, c5, c6, c7, c8, c9, c10, c11, c12].getD k c0, fun k => [i0, i1, i2, i3, i4, i5, i6, i7, i8, i9, i10, i11, i12].getD k i0, ?_⟩
    intro k q hq
    match k, hq with
    | 0, hq => cases hq; exact k0
    | 1, hq => cases hq; exact k1
    | 2, hq => cases hq; exact k2
    | 3, hq => cases hq; exact k3
    | 4, hq => cases hq; exact k4
    | 5, hq => cases hq; exact k5
    | 6, hq => cases hq; exact k6
    | 7, hq => cases hq; exact k7
    | 8, hq => cases hq; exact k8
    | 9, hq => cases hq; exact k9
    | 10, hq => cases hq; exact k10
    | 11, hq => cases hq; exact k11
    | 12, hq => cases hq; exact k12
    | k + 13, hq => simp [vwCl] at hq
  have E := la_start (g := (l, s, dC, dI)) (b := b) (Ln := L) (xs := xs) hX hbl hL (hOK _) hI
  have hl := lv_entry ([.ref b]) (n := 4) (Nat.le_of_ble_eq_true rfl)
  rw [lg_entry_eq]
  refine la_mono (fun t q => ?_) (E p e s m #[Value.ref b] below meth c s.heap [] _ ⟨hx, hb, hml, hown, fun w hw => ?_, hr, hlocks, hname⟩ ⟨⟨Vm.Alike.refl _, ⟨hKc, fun k q h => by simp at h⟩, fun a i x h hm => va_Nw.of rfl (hts _ hm), la_X hts hgv⟩, rfl, fun q _ => rfl, fun c hc => absurd hc (Nat.not_lt_zero _)⟩ (fun q hq => by cases hq) ⟨hl.1, hl.2.1, fun i v hi => ?_⟩)
  · obtain ⟨o, h1, h2, ⟨r, τ, h3, h4, h5⟩, L2, ⟨f1, f2, f3⟩, f4⟩ := q
    rw [h4] at h3
    exact ⟨o, h1, h2, h3, f1, f2, la_forget f3 f4⟩
  · rcases List.mem_cons.mp hw with h | h
    · rw [h]; exact hcode
    · exact ht w h
  · match i, hi with
    | 0, hi =>
      cases hi
      exact hl.2.2 (0, .ref b) (by simp [lv_args])
    | 1, hi => simp at hi
    | 2, hi => simp at hi
    | 3, hi => simp at hi
    | i + 4, hi => simp at hi
