/-! frames: which cells each pure function leaves as they were -/
theorem fr_up {α : Type} {f : Nat → Nat → α} {c k c0 k0 : Nat} {x v : α} {L : List (Nat × Nat)} (h : (c, k) ∉ L) (m : (c0, k0) ∈ L) (q : f c k = v) : cw_u f c0 k0 x c k = v := by
  have : ¬ (c = c0 ∧ k = k0) := fun z => h (by rw [z.1, z.2]; exact m)
  unfold cw_u
  rw [if_neg this]; exact q
theorem fr_uc {α : Type} {f : Nat → Nat → α} {c c0 k0 : Nat} {x : α} {v : Nat → α} {L : List Nat} (h : c ∉ L) (m : c0 ∈ L) (q : f c = v) : cw_u f c0 k0 x c = v := by
  have : c ≠ c0 := fun z => h (by rw [z]; exact m)
  rw [cw_u_c _ _ this]; exact q
theorem fr_itep {α : Type} {f g : Nat → Nat → α} {c k : Nat} {v : α} {p : Prop} [Decidable p] (h1 : f c k = v) (h2 : g c k = v) : (if p then f else g) c k = v := by split <;> assumption
theorem fr_itec {α : Type} {f g : Nat → Nat → α} {c : Nat} {v : Nat → α} {p : Prop} [Decidable p] (h1 : f c = v) (h2 : g c = v) : (if p then f else g) c = v := by split <;> assumption
theorem fr_subp {L1 L2 : List (Nat × Nat)} {x : Nat × Nat} (s : L1.all (fun y => L2.contains y) = true) (h : x ∉ L2) : x ∉ L1 := fun q => h (by
  have := List.all_eq_true.mp s x q
  simpa using this)
theorem fr_subc {L1 L2 : List Nat} {x : Nat} (s : L1.all (fun y => L2.contains y) = true) (h : x ∉ L2) : x ∉ L1 := fun q => h (by
  have := List.all_eq_true.mp s x q
  simpa using this)
theorem fr_qA23_X9_add_1 {n : Nat} {I : Nat → Nat → Int32} {A : Nat → Nat → Int32} {J : Nat → Nat → Int64} {t : Bool × Bool} {x1 : Int32} {x2 : Int32} {x3 : Int32} {c : Nat} (h : c ∉ [2]) : qA23_X9_add_1 n I A J t x1 x2 x3 c = A c := (fr_uc h (List.mem_of_getElem? (i := 0) rfl) rfl)
theorem fr_qA33_X9_add_1 {n : Nat} {I : Nat → Nat → Int32} {A : Nat → Nat → Int32} {J : Nat → Nat → Int64} {t : Bool × Bool} {x1 : Int32} {x2 : Int32} {x3 : Int32} {c : Nat} (h : c ∉ [2, 3]) : qA33_X9_add_1 n I A J t x1 x2 x3 c = A c := (fr_uc h (List.mem_of_getElem? (i := 1) rfl) (fr_qA23_X9_add_1 (fr_subc rfl h)))
theorem fr_qA43_X9_add_1 {n : Nat} {I : Nat → Nat → Int32} {A : Nat → Nat → Int32} {J : Nat → Nat → Int64} {t : Bool × Bool} {x1 : Int32} {x2 : Int32} {x3 : Int32} {c : Nat} (h : c ∉ [2, 3, 4]) : qA43_X9_add_1 n I A J t x1 x2 x3 c = A c := (fr_uc h (List.mem_of_getElem? (i := 2) rfl) (fr_qA33_X9_add_1 (fr_subc rfl h)))
theorem fr_qI51_X9_add_1 {n : Nat} {I : Nat → Nat → Int32} {A : Nat → Nat → Int32} {J : Nat → Nat → Int64} {t : Bool × Bool} {x1 : Int32} {x2 : Int32} {x3 : Int32} {c k : Nat} (h : (c, k) ∉ [(1, 3)]) : qI51_X9_add_1 n I A J t x1 x2 x3 c k = I c k := (fr_up h (List.mem_of_getElem? (i := 0) rfl) rfl)
theorem fr_pI_X9_add_1 {n : Nat} {I : Nat → Nat → Int32} {A : Nat → Nat → Int32} {J : Nat → Nat → Int64} {t : Bool × Bool} {x1 : Int32} {x2 : Int32} {x3 : Int32} {c k : Nat} (h : (c, k) ∉ [(1, 3)]) : pI_X9_add_1 n I A J t x1 x2 x3 c k = I c k := (fr_itep (fr_qI51_X9_add_1 (fr_subp rfl h)) rfl)
theorem fr_pA_X9_add_1 {n : Nat} {I : Nat → Nat → Int32} {A : Nat → Nat → Int32} {J : Nat → Nat → Int64} {t : Bool × Bool} {x1 : Int32} {x2 : Int32} {x3 : Int32} {c : Nat} (h : c ∉ [2, 3, 4]) : pA_X9_add_1 n I A J t x1 x2 x3 c = A c := (fr_itec (fr_qA43_X9_add_1 (fr_subc rfl h)) rfl)
theorem fr_qA23_X9_add_5 {n : Nat} {I : Nat → Nat → Int32} {A : Nat → Nat → Int32} {J : Nat → Nat → Int64} {t : Bool × Bool} {x1 : Int32} {x2 : Int32} {x3 : Int32} {c : Nat} (h : c ∉ [6]) : qA23_X9_add_5 n I A J t x1 x2 x3 c = A c := (fr_uc h (List.mem_of_getElem? (i := 0) rfl) rfl)
theorem fr_qA33_X9_add_5 {n : Nat} {I : Nat → Nat → Int32} {A : Nat → Nat → Int32} {J : Nat → Nat → Int64} {t : Bool × Bool} {x1 : Int32} {x2 : Int32} {x3 : Int32} {c : Nat} (h : c ∉ [6, 7]) : qA33_X9_add_5 n I A J t x1 x2 x3 c = A c := (fr_uc h (List.mem_of_getElem? (i := 1) rfl) (fr_qA23_X9_add_5 (fr_subc rfl h)))
theorem fr_qA43_X9_add_5 {n : Nat} {I : Nat → Nat → Int32} {A : Nat → Nat → Int32} {J : Nat → Nat → Int64} {t : Bool × Bool} {x1 : Int32} {x2 : Int32} {x3 : Int32} {c : Nat} (h : c ∉ [6, 7, 8]) : qA43_X9_add_5 n I A J t x1 x2 x3 c = A c := (fr_uc h (List.mem_of_getElem? (i := 2) rfl) (fr_qA33_X9_add_5 (fr_subc rfl h)))
theorem fr_qI51_X9_add_5 {n : Nat} {I : Nat → Nat → Int32} {A : Nat → Nat → Int32} {J : Nat → Nat → Int64} {t : Bool × Bool} {x1 : Int32} {x2 : Int32} {x3 : Int32} {c k : Nat} (h : (c, k) ∉ [(5, 3)]) : qI51_X9_add_5 n I A J t x1 x2 x3 c k = I c k := (fr_up h (List.mem_of_getElem? (i := 0) rfl) rfl)
theorem fr_pI_X9_add_5 {n : Nat} {I : Nat → Nat → Int32} {A : Nat → Nat → Int32} {J : Nat → Nat → Int64} {t : Bool × Bool} {x1 : Int32} {x2 : Int32} {x3 : Int32} {c k : Nat} (h : (c, k) ∉ [(5, 3)]) : pI_X9_add_5 n I A J t x1 x2 x3 c k = I c k := (fr_itep (fr_qI51_X9_add_5 (fr_subp rfl h)) rfl)
theorem fr_pA_X9_add_5 {n : Nat} {I : Nat → Nat → Int32} {A : Nat → Nat → Int32} {J : Nat → Nat → Int64} {t : Bool × Bool} {x1 : Int32} {x2 : Int32} {x3 : Int32} {c : Nat} (h : c ∉ [6, 7, 8]) : pA_X9_add_5 n I A J t x1 x2 x3 c = A c := (fr_itec (fr_qA43_X9_add_5 (fr_subc rfl h)) rfl)
theorem fr_qA20_X2_add_9 {n : Nat} {I : Nat → Nat → Int32} {A : Nat → Nat → Int32} {J : Nat → Nat → Int64} {t : Bool × Bool} {x1 : Int32} {x2 : Int32} {c : Nat} (h : c ∉ [10]) : qA20_X2_add_9 n I A J t x1 x2 c = A c := (fr_uc h (List.mem_of_getElem? (i := 0) rfl) rfl)
theorem fr_qA30_X2_add_9 {n : Nat} {I : Nat → Nat → Int32} {A : Nat → Nat → Int32} {J : Nat → Nat → Int64} {t : Bool × Bool} {x1 : Int32} {x2 : Int32} {c : Nat} (h : c ∉ [10, 11]) : qA30_X2_add_9 n I A J t x1 x2 c = A c := (fr_uc h (List.mem_of_getElem? (i := 1) rfl) (fr_qA20_X2_add_9 (fr_subc rfl h)))
theorem fr_qI38_X2_add_9 {n : Nat} {I : Nat → Nat → Int32} {A : Nat → Nat → Int32} {J : Nat → Nat → Int64} {t : Bool × Bool} {x1 : Int32} {x2 : Int32} {c k : Nat} (h : (c, k) ∉ [(9, 2)]) : qI38_X2_add_9 n I A J t x1 x2 c k = I c k := (fr_up h (List.mem_of_getElem? (i := 0) rfl) rfl)
theorem fr_pI_X2_add_9 {n : Nat} {I : Nat → Nat → Int32} {A : Nat → Nat → Int32} {J : Nat → Nat → Int64} {t : Bool × Bool} {x1 : Int32} {x2 : Int32} {c k : Nat} (h : (c, k) ∉ [(9, 2)]) : pI_X2_add_9 n I A J t x1 x2 c k = I c k := (fr_itep (fr_qI38_X2_add_9 (fr_subp rfl h)) rfl)
theorem fr_pA_X2_add_9 {n : Nat} {I : Nat → Nat → Int32} {A : Nat → Nat → Int32} {J : Nat → Nat → Int64} {t : Bool × Bool} {x1 : Int32} {x2 : Int32} {c : Nat} (h : c ∉ [10, 11]) : pA_X2_add_9 n I A J t x1 x2 c = A c := (fr_itec (fr_qA30_X2_add_9 (fr_subc rfl h)) rfl)
theorem fr_qA20_X6_add_12 {n : Nat} {I : Nat → Nat → Int32} {A : Nat → Nat → Int32} {J : Nat → Nat → Int64} {t : Bool × Bool} {x1 : Int32} {x2 : Int32} {x3 : Int32} {c : Nat} (h : c ∉ [13]) : qA20_X6_add_12 n I A J t x1 x2 x3 c = A c := (fr_uc h (List.mem_of_getElem? (i := 0) rfl) rfl)
theorem fr_qA30_X6_add_12 {n : Nat} {I : Nat → Nat → Int32} {A : Nat → Nat → Int32} {J : Nat → Nat → Int64} {t : Bool × Bool} {x1 : Int32} {x2 : Int32} {x3 : Int32} {c : Nat} (h : c ∉ [13, 14]) : qA30_X6_add_12 n I A J t x1 x2 x3 c = A c := (fr_uc h (List.mem_of_getElem? (i := 1) rfl) (fr_qA20_X6_add_12 (fr_subc rfl h)))
theorem fr_qA40_X6_add_12 {n : Nat} {I : Nat → Nat → Int32} {A : Nat → Nat → Int32} {J : Nat → Nat → Int64} {t : Bool × Bool} {x1 : Int32} {x2 : Int32} {x3 : Int32} {c : Nat} (h : c ∉ [13, 14, 15]) : qA40_X6_add_12 n I A J t x1 x2 x3 c = A c := (fr_uc h (List.mem_of_getElem? (i := 2) rfl) (fr_qA30_X6_add_12 (fr_subc rfl h)))
theorem fr_qI48_X6_add_12 {n : Nat} {I : Nat → Nat → Int32} {A : Nat → Nat → Int32} {J : Nat → Nat → Int64} {t : Bool × Bool} {x1 : Int32} {x2 : Int32} {x3 : Int32} {c k : Nat} (h : (c, k) ∉ [(12, 3)]) : qI48_X6_add_12 n I A J t x1 x2 x3 c k = I c k := (fr_up h (List.mem_of_getElem? (i := 0) rfl) rfl)
theorem fr_pI_X6_add_12 {n : Nat} {I : Nat → Nat → Int32} {A : Nat → Nat → Int32} {J : Nat → Nat → Int64} {t : Bool × Bool} {x1 : Int32} {x2 : Int32} {x3 : Int32} {c k : Nat} (h : (c, k) ∉ [(12, 3)]) : pI_X6_add_12 n I A J t x1 x2 x3 c k = I c k := (fr_itep (fr_qI48_X6_add_12 (fr_subp rfl h)) rfl)
theorem fr_pA_X6_add_12 {n : Nat} {I : Nat → Nat → Int32} {A : Nat → Nat → Int32} {J : Nat → Nat → Int64} {t : Bool × Bool} {x1 : Int32} {x2 : Int32} {x3 : Int32} {c : Nat} (h : c ∉ [13, 14, 15]) : pA_X6_add_12 n I A J t x1 x2 x3 c = A c := (fr_itec (fr_qA40_X6_add_12 (fr_subc rfl h)) rfl)
theorem fr_qA13_X8_put_16 {n : Nat} {I : Nat → Nat → Int32} {A : Nat → Nat → Int32} {J : Nat → Nat → Int64} {t : Bool × Bool} {x1 : Int32} {x2 : Int32} {x3 : Int32} {c : Nat} (h : c ∉ [17]) : qA13_X8_put_16 n I A J t x1 x2 x3 c = A c := (fr_uc h (List.mem_of_getElem? (i := 0) rfl) rfl)
theorem fr_pA_X8_put_16 {n : Nat} {I : Nat → Nat → Int32} {A : Nat → Nat → Int32} {J : Nat → Nat → Int64} {t : Bool × Bool} {x1 : Int32} {x2 : Int32} {x3 : Int32} {c : Nat} (h : c ∉ [17]) : pA_X8_put_16 n I A J t x1 x2 x3 c = A c := (fr_qA13_X8_put_16 (fr_subc rfl h))
theorem fr_qA10_X8_renew_16 {n : Nat} {I : Nat → Nat → Int32} {A : Nat → Nat → Int32} {J : Nat → Nat → Int64} {t : Bool × Bool} {x1 : Int32} {x2 : Int32} {c : Nat} (h : c ∉ [18]) : qA10_X8_renew_16 n I A J t x1 x2 c = A c := (fr_uc h (List.mem_of_getElem? (i := 0) rfl) rfl)
theorem fr_qA35_X8_renew_16 {n : Nat} {I : Nat → Nat → Int32} {A : Nat → Nat → Int32} {J : Nat → Nat → Int64} {t : Bool × Bool} {x1 : Int32} {x2 : Int32} {A13 : Nat → Nat → Int32} {v13_3 : Int32} {c : Nat} (h : c ∉ [17]) : qA35_X8_renew_16 n I A J t x1 x2 A13 v13_3 c = A13 c := (fr_uc h (List.mem_of_getElem? (i := 0) rfl) rfl)
theorem fr_lp_X8_renew_16_13_c0 {n : Nat} {I : Nat → Nat → Int32} {A : Nat → Nat → Int32} {J : Nat → Nat → Int64} {t : Bool × Bool} {x1 : Int32} {x2 : Int32} {c : Nat} (h : c ∉ [17]) : ∀ (f : Nat) (A13 : Nat → Nat → Int32) (v13_3 : Int32), (lp_X8_renew_16_13 n I A J t x1 x2 f A13 v13_3).1 c = A13 c := by
  intro f
  induction f with
  | zero => intro _ _; rfl
  | succ f ih =>
    intro A13 v13_3
    unfold lp_X8_renew_16_13
    split
    · exact rfl
    · exact (ih _ _).trans (fr_qA35_X8_renew_16 (fr_subc rfl h))
theorem fr_qAw13_X8_renew_16 {n : Nat} {I : Nat → Nat → Int32} {A : Nat → Nat → Int32} {J : Nat → Nat → Int64} {t : Bool × Bool} {x1 : Int32} {x2 : Int32} {c : Nat} (h : c ∉ [17, 18]) : qAw13_X8_renew_16 n I A J t x1 x2 c = A c := ((fr_lp_X8_renew_16_13_c0 (fr_subc rfl h) _ _ _).trans (fr_qA10_X8_renew_16 (fr_subc rfl h)))
theorem fr_pA_X8_renew_16 {n : Nat} {I : Nat → Nat → Int32} {A : Nat → Nat → Int32} {J : Nat → Nat → Int64} {t : Bool × Bool} {x1 : Int32} {x2 : Int32} {c : Nat} (h : c ∉ [17, 18]) : pA_X8_renew_16 n I A J t x1 x2 c = A c := (fr_qAw13_X8_renew_16 (fr_subc rfl h))
theorem fr_qA9_X1_add_19 {n : Nat} {I : Nat → Nat → Int32} {A : Nat → Nat → Int32} {J : Nat → Nat → Int64} {t : Bool × Bool} {x1 : Int32} {x2 : Int32} {x3 : Int32} {x4 : Int32} {x5 : Int32} {c : Nat} (h : c ∉ [22]) : qA9_X1_add_19 n I A J t x1 x2 x3 x4 x5 c = A c := (fr_uc h (List.mem_of_getElem? (i := 0) rfl) rfl)
theorem fr_qA19_X1_add_19 {n : Nat} {I : Nat → Nat → Int32} {A : Nat → Nat → Int32} {J : Nat → Nat → Int64} {t : Bool × Bool} {x1 : Int32} {x2 : Int32} {x3 : Int32} {x4 : Int32} {x5 : Int32} {c : Nat} (h : c ∉ [22, 23]) : qA19_X1_add_19 n I A J t x1 x2 x3 x4 x5 c = A c := (fr_uc h (List.mem_of_getElem? (i := 1) rfl) (fr_qA9_X1_add_19 (fr_subc rfl h)))
theorem fr_qA29_X1_add_19 {n : Nat} {I : Nat → Nat → Int32} {A : Nat → Nat → Int32} {J : Nat → Nat → Int64} {t : Bool × Bool} {x1 : Int32} {x2 : Int32} {x3 : Int32} {x4 : Int32} {x5 : Int32} {c : Nat} (h : c ∉ [22, 23, 24]) : qA29_X1_add_19 n I A J t x1 x2 x3 x4 x5 c = A c := (fr_uc h (List.mem_of_getElem? (i := 2) rfl) (fr_qA19_X1_add_19 (fr_subc rfl h)))
theorem fr_qA40_X1_add_19 {n : Nat} {I : Nat → Nat → Int32} {A : Nat → Nat → Int32} {J : Nat → Nat → Int64} {t : Bool × Bool} {x1 : Int32} {x2 : Int32} {x3 : Int32} {x4 : Int32} {x5 : Int32} {c : Nat} (h : c ∉ [21, 22, 23, 24]) : qA40_X1_add_19 n I A J t x1 x2 x3 x4 x5 c = A c := (fr_uc h (List.mem_of_getElem? (i := 0) rfl) (fr_qA29_X1_add_19 (fr_subc rfl h)))
theorem fr_qA51_X1_add_19 {n : Nat} {I : Nat → Nat → Int32} {A : Nat → Nat → Int32} {J : Nat → Nat → Int64} {t : Bool × Bool} {x1 : Int32} {x2 : Int32} {x3 : Int32} {x4 : Int32} {x5 : Int32} {c : Nat} (h : c ∉ [21, 22, 23, 24, 25]) : qA51_X1_add_19 n I A J t x1 x2 x3 x4 x5 c = A c := (fr_uc h (List.mem_of_getElem? (i := 4) rfl) (fr_qA40_X1_add_19 (fr_subc rfl h)))
theorem fr_qI59_X1_add_19 {n : Nat} {I : Nat → Nat → Int32} {A : Nat → Nat → Int32} {J : Nat → Nat → Int64} {t : Bool × Bool} {x1 : Int32} {x2 : Int32} {x3 : Int32} {x4 : Int32} {x5 : Int32} {c k : Nat} (h : (c, k) ∉ [(19, 9)]) : qI59_X1_add_19 n I A J t x1 x2 x3 x4 x5 c k = I c k := (fr_up h (List.mem_of_getElem? (i := 0) rfl) rfl)
theorem fr_pI_X1_add_19 {n : Nat} {I : Nat → Nat → Int32} {A : Nat → Nat → Int32} {J : Nat → Nat → Int64} {t : Bool × Bool} {x1 : Int32} {x2 : Int32} {x3 : Int32} {x4 : Int32} {x5 : Int32} {c k : Nat} (h : (c, k) ∉ [(19, 9)]) : pI_X1_add_19 n I A J t x1 x2 x3 x4 x5 c k = I c k := (fr_qI59_X1_add_19 (fr_subp rfl h))
theorem fr_pA_X1_add_19 {n : Nat} {I : Nat → Nat → Int32} {A : Nat → Nat → Int32} {J : Nat → Nat → Int64} {t : Bool × Bool} {x1 : Int32} {x2 : Int32} {x3 : Int32} {x4 : Int32} {x5 : Int32} {c : Nat} (h : c ∉ [21, 22, 23, 24, 25]) : pA_X1_add_19 n I A J t x1 x2 x3 x4 x5 c = A c := (fr_qA51_X1_add_19 (fr_subc rfl h))
theorem fr_qA21_X1_addReport_19 {n : Nat} {I : Nat → Nat → Int32} {A : Nat → Nat → Int32} {J : Nat → Nat → Int64} {t : Bool × Bool} {x1 : Int32} {x2 : Int32} {x3 : Int32} {x4 : Int32} {x5 : Int32} {x6 : Int32} {c : Nat} (h : c ∉ [20]) : qA21_X1_addReport_19 n I A J t x1 x2 x3 x4 x5 x6 c = A c := (fr_uc h (List.mem_of_getElem? (i := 0) rfl) rfl)
theorem fr_qA32_X1_addReport_19 {n : Nat} {I : Nat → Nat → Int32} {A : Nat → Nat → Int32} {J : Nat → Nat → Int64} {t : Bool × Bool} {x1 : Int32} {x2 : Int32} {x3 : Int32} {x4 : Int32} {x5 : Int32} {x6 : Int32} {c : Nat} (h : c ∉ [20, 26]) : qA32_X1_addReport_19 n I A J t x1 x2 x3 x4 x5 x6 c = A c := (fr_uc h (List.mem_of_getElem? (i := 1) rfl) (fr_qA21_X1_addReport_19 (fr_subc rfl h)))
theorem fr_pI_X1_addReport_19 {n : Nat} {I : Nat → Nat → Int32} {A : Nat → Nat → Int32} {J : Nat → Nat → Int64} {t : Bool × Bool} {x1 : Int32} {x2 : Int32} {x3 : Int32} {x4 : Int32} {x5 : Int32} {x6 : Int32} {c k : Nat} (h : (c, k) ∉ [(19, 9)]) : pI_X1_addReport_19 n I A J t x1 x2 x3 x4 x5 x6 c k = I c k := (fr_itep (fr_pI_X1_add_19 (fr_subp rfl h)) rfl)
theorem fr_pA_X1_addReport_19 {n : Nat} {I : Nat → Nat → Int32} {A : Nat → Nat → Int32} {J : Nat → Nat → Int64} {t : Bool × Bool} {x1 : Int32} {x2 : Int32} {x3 : Int32} {x4 : Int32} {x5 : Int32} {x6 : Int32} {c : Nat} (h : c ∉ [20, 21, 22, 23, 24, 25, 26]) : pA_X1_addReport_19 n I A J t x1 x2 x3 x4 x5 x6 c = A c := (fr_itec ((fr_pA_X1_add_19 (fr_subc rfl h)).trans (fr_qA32_X1_addReport_19 (fr_subc rfl h))) rfl)
theorem fr_qA21_X1_addNotice_19 {n : Nat} {I : Nat → Nat → Int32} {A : Nat → Nat → Int32} {J : Nat → Nat → Int64} {t : Bool × Bool} {x1 : Int32} {x2 : Int32} {x3 : Int32} {x4 : Int32} {x5 : Int32} {c : Nat} (h : c ∉ [20]) : qA21_X1_addNotice_19 n I A J t x1 x2 x3 x4 x5 c = A c := (fr_uc h (List.mem_of_getElem? (i := 0) rfl) rfl)
theorem fr_qA42_X1_addNotice_19 {n : Nat} {I : Nat → Nat → Int32} {A : Nat → Nat → Int32} {J : Nat → Nat → Int64} {t : Bool × Bool} {x1 : Int32} {x2 : Int32} {x3 : Int32} {x4 : Int32} {x5 : Int32} {c : Nat} (h : c ∉ [20, 27]) : qA42_X1_addNotice_19 n I A J t x1 x2 x3 x4 x5 c = A c := (fr_uc h (List.mem_of_getElem? (i := 1) rfl) (fr_qA21_X1_addNotice_19 (fr_subc rfl h)))
theorem fr_qA52_X1_addNotice_19 {n : Nat} {I : Nat → Nat → Int32} {A : Nat → Nat → Int32} {J : Nat → Nat → Int64} {t : Bool × Bool} {x1 : Int32} {x2 : Int32} {x3 : Int32} {x4 : Int32} {x5 : Int32} {c : Nat} (h : c ∉ [20, 27, 28]) : qA52_X1_addNotice_19 n I A J t x1 x2 x3 x4 x5 c = A c := (fr_uc h (List.mem_of_getElem? (i := 2) rfl) (fr_qA42_X1_addNotice_19 (fr_subc rfl h)))
theorem fr_pI_X1_addNotice_19 {n : Nat} {I : Nat → Nat → Int32} {A : Nat → Nat → Int32} {J : Nat → Nat → Int64} {t : Bool × Bool} {x1 : Int32} {x2 : Int32} {x3 : Int32} {x4 : Int32} {x5 : Int32} {c k : Nat} (h : (c, k) ∉ [(19, 9)]) : pI_X1_addNotice_19 n I A J t x1 x2 x3 x4 x5 c k = I c k := (fr_itep (fr_pI_X1_add_19 (fr_subp rfl h)) rfl)
theorem fr_pA_X1_addNotice_19 {n : Nat} {I : Nat → Nat → Int32} {A : Nat → Nat → Int32} {J : Nat → Nat → Int64} {t : Bool × Bool} {x1 : Int32} {x2 : Int32} {x3 : Int32} {x4 : Int32} {x5 : Int32} {c : Nat} (h : c ∉ [20, 21, 22, 23, 24, 25, 27, 28]) : pA_X1_addNotice_19 n I A J t x1 x2 x3 x4 x5 c = A c := (fr_itec ((fr_pA_X1_add_19 (fr_subc rfl h)).trans (fr_qA52_X1_addNotice_19 (fr_subc rfl h))) rfl)
theorem fr_qA13_J7_fill_53178_30 {n : Nat} {I : Nat → Nat → Int32} {A : Nat → Nat → Int32} {J : Nat → Nat → Int64} {t : Bool × Bool} {x1 : Int32} {A5 : Nat → Nat → Int32} {v5_2 : Int32} {c : Nat} (h : c ∉ [30]) : qA13_J7_fill_53178_30 n I A J t x1 A5 v5_2 c = A5 c := (fr_uc h (List.mem_of_getElem? (i := 0) rfl) rfl)
theorem fr_lp_J7_fill_53178_30_5_c0 {n : Nat} {I : Nat → Nat → Int32} {A : Nat → Nat → Int32} {J : Nat → Nat → Int64} {t : Bool × Bool} {x1 : Int32} {c : Nat} (h : c ∉ [30]) : ∀ (f : Nat) (A5 : Nat → Nat → Int32) (v5_2 : Int32), (lp_J7_fill_53178_30_5 n I A J t x1 f A5 v5_2).1 c = A5 c := by
  intro f
  induction f with
  | zero => intro _ _; rfl
  | succ f ih =>
    intro A5 v5_2
    unfold lp_J7_fill_53178_30_5
    split
    · exact rfl
    · exact (ih _ _).trans (fr_qA13_J7_fill_53178_30 (fr_subc rfl h))
theorem fr_qAw5_J7_fill_53178_30 {n : Nat} {I : Nat → Nat → Int32} {A : Nat → Nat → Int32} {J : Nat → Nat → Int64} {t : Bool × Bool} {x1 : Int32} {c : Nat} (h : c ∉ [30]) : qAw5_J7_fill_53178_30 n I A J t x1 c = A c := (fr_lp_J7_fill_53178_30_5_c0 (fr_subc rfl h) _ _ _)
theorem fr_pA_J7_fill_53178_30 {n : Nat} {I : Nat → Nat → Int32} {A : Nat → Nat → Int32} {J : Nat → Nat → Int64} {t : Bool × Bool} {x1 : Int32} {c : Nat} (h : c ∉ [30]) : pA_J7_fill_53178_30 n I A J t x1 c = A c := (fr_qAw5_J7_fill_53178_30 (fr_subc rfl h))
theorem fr_qA13_J7_fill_53178_31 {n : Nat} {I : Nat → Nat → Int32} {A : Nat → Nat → Int32} {J : Nat → Nat → Int64} {t : Bool × Bool} {x1 : Int32} {A5 : Nat → Nat → Int32} {v5_2 : Int32} {c : Nat} (h : c ∉ [31]) : qA13_J7_fill_53178_31 n I A J t x1 A5 v5_2 c = A5 c := (fr_uc h (List.mem_of_getElem? (i := 0) rfl) rfl)
theorem fr_lp_J7_fill_53178_31_5_c0 {n : Nat} {I : Nat → Nat → Int32} {A : Nat → Nat → Int32} {J : Nat → Nat → Int64} {t : Bool × Bool} {x1 : Int32} {c : Nat} (h : c ∉ [31]) : ∀ (f : Nat) (A5 : Nat → Nat → Int32) (v5_2 : Int32), (lp_J7_fill_53178_31_5 n I A J t x1 f A5 v5_2).1 c = A5 c := by
  intro f
  induction f with
  | zero => intro _ _; rfl
  | succ f ih =>
    intro A5 v5_2
    unfold lp_J7_fill_53178_31_5
    split
    · exact rfl
    · exact (ih _ _).trans (fr_qA13_J7_fill_53178_31 (fr_subc rfl h))
theorem fr_qAw5_J7_fill_53178_31 {n : Nat} {I : Nat → Nat → Int32} {A : Nat → Nat → Int32} {J : Nat → Nat → Int64} {t : Bool × Bool} {x1 : Int32} {c : Nat} (h : c ∉ [31]) : qAw5_J7_fill_53178_31 n I A J t x1 c = A c := (fr_lp_J7_fill_53178_31_5_c0 (fr_subc rfl h) _ _ _)
theorem fr_pA_J7_fill_53178_31 {n : Nat} {I : Nat → Nat → Int32} {A : Nat → Nat → Int32} {J : Nat → Nat → Int64} {t : Bool × Bool} {x1 : Int32} {c : Nat} (h : c ∉ [31]) : pA_J7_fill_53178_31 n I A J t x1 c = A c := (fr_qAw5_J7_fill_53178_31 (fr_subc rfl h))
theorem fr_qA13_J7_fill_53178_54 {n : Nat} {I : Nat → Nat → Int32} {A : Nat → Nat → Int32} {J : Nat → Nat → Int64} {t : Bool × Bool} {x1 : Int32} {A5 : Nat → Nat → Int32} {v5_2 : Int32} {c : Nat} (h : c ∉ [54]) : qA13_J7_fill_53178_54 n I A J t x1 A5 v5_2 c = A5 c := (fr_uc h (List.mem_of_getElem? (i := 0) rfl) rfl)
theorem fr_lp_J7_fill_53178_54_5_c0 {n : Nat} {I : Nat → Nat → Int32} {A : Nat → Nat → Int32} {J : Nat → Nat → Int64} {t : Bool × Bool} {x1 : Int32} {c : Nat} (h : c ∉ [54]) : ∀ (f : Nat) (A5 : Nat → Nat → Int32) (v5_2 : Int32), (lp_J7_fill_53178_54_5 n I A J t x1 f A5 v5_2).1 c = A5 c := by
  intro f
  induction f with
  | zero => intro _ _; rfl
  | succ f ih =>
    intro A5 v5_2
    unfold lp_J7_fill_53178_54_5
    split
    · exact rfl
    · exact (ih _ _).trans (fr_qA13_J7_fill_53178_54 (fr_subc rfl h))
theorem fr_qAw5_J7_fill_53178_54 {n : Nat} {I : Nat → Nat → Int32} {A : Nat → Nat → Int32} {J : Nat → Nat → Int64} {t : Bool × Bool} {x1 : Int32} {c : Nat} (h : c ∉ [54]) : qAw5_J7_fill_53178_54 n I A J t x1 c = A c := (fr_lp_J7_fill_53178_54_5_c0 (fr_subc rfl h) _ _ _)
theorem fr_pA_J7_fill_53178_54 {n : Nat} {I : Nat → Nat → Int32} {A : Nat → Nat → Int32} {J : Nat → Nat → Int64} {t : Bool × Bool} {x1 : Int32} {c : Nat} (h : c ∉ [54]) : pA_J7_fill_53178_54 n I A J t x1 c = A c := (fr_qAw5_J7_fill_53178_54 (fr_subc rfl h))
theorem fr_qA13_J7_fill_53178_55 {n : Nat} {I : Nat → Nat → Int32} {A : Nat → Nat → Int32} {J : Nat → Nat → Int64} {t : Bool × Bool} {x1 : Int32} {A5 : Nat → Nat → Int32} {v5_2 : Int32} {c : Nat} (h : c ∉ [55]) : qA13_J7_fill_53178_55 n I A J t x1 A5 v5_2 c = A5 c := (fr_uc h (List.mem_of_getElem? (i := 0) rfl) rfl)
theorem fr_lp_J7_fill_53178_55_5_c0 {n : Nat} {I : Nat → Nat → Int32} {A : Nat → Nat → Int32} {J : Nat → Nat → Int64} {t : Bool × Bool} {x1 : Int32} {c : Nat} (h : c ∉ [55]) : ∀ (f : Nat) (A5 : Nat → Nat → Int32) (v5_2 : Int32), (lp_J7_fill_53178_55_5 n I A J t x1 f A5 v5_2).1 c = A5 c := by
  intro f
  induction f with
  | zero => intro _ _; rfl
  | succ f ih =>
    intro A5 v5_2
    unfold lp_J7_fill_53178_55_5
    split
    · exact rfl
    · exact (ih _ _).trans (fr_qA13_J7_fill_53178_55 (fr_subc rfl h))
theorem fr_qAw5_J7_fill_53178_55 {n : Nat} {I : Nat → Nat → Int32} {A : Nat → Nat → Int32} {J : Nat → Nat → Int64} {t : Bool × Bool} {x1 : Int32} {c : Nat} (h : c ∉ [55]) : qAw5_J7_fill_53178_55 n I A J t x1 c = A c := (fr_lp_J7_fill_53178_55_5_c0 (fr_subc rfl h) _ _ _)
theorem fr_pA_J7_fill_53178_55 {n : Nat} {I : Nat → Nat → Int32} {A : Nat → Nat → Int32} {J : Nat → Nat → Int64} {t : Bool × Bool} {x1 : Int32} {c : Nat} (h : c ∉ [55]) : pA_J7_fill_53178_55 n I A J t x1 c = A c := (fr_qAw5_J7_fill_53178_55 (fr_subc rfl h))
theorem fr_qA13_J7_fill_53178_56 {n : Nat} {I : Nat → Nat → Int32} {A : Nat → Nat → Int32} {J : Nat → Nat → Int64} {t : Bool × Bool} {x1 : Int32} {A5 : Nat → Nat → Int32} {v5_2 : Int32} {c : Nat} (h : c ∉ [56]) : qA13_J7_fill_53178_56 n I A J t x1 A5 v5_2 c = A5 c := (fr_uc h (List.mem_of_getElem? (i := 0) rfl) rfl)
theorem fr_lp_J7_fill_53178_56_5_c0 {n : Nat} {I : Nat → Nat → Int32} {A : Nat → Nat → Int32} {J : Nat → Nat → Int64} {t : Bool × Bool} {x1 : Int32} {c : Nat} (h : c ∉ [56]) : ∀ (f : Nat) (A5 : Nat → Nat → Int32) (v5_2 : Int32), (lp_J7_fill_53178_56_5 n I A J t x1 f A5 v5_2).1 c = A5 c := by
  intro f
  induction f with
  | zero => intro _ _; rfl
  | succ f ih =>
    intro A5 v5_2
    unfold lp_J7_fill_53178_56_5
    split
    · exact rfl
    · exact (ih _ _).trans (fr_qA13_J7_fill_53178_56 (fr_subc rfl h))
theorem fr_qAw5_J7_fill_53178_56 {n : Nat} {I : Nat → Nat → Int32} {A : Nat → Nat → Int32} {J : Nat → Nat → Int64} {t : Bool × Bool} {x1 : Int32} {c : Nat} (h : c ∉ [56]) : qAw5_J7_fill_53178_56 n I A J t x1 c = A c := (fr_lp_J7_fill_53178_56_5_c0 (fr_subc rfl h) _ _ _)
theorem fr_pA_J7_fill_53178_56 {n : Nat} {I : Nat → Nat → Int32} {A : Nat → Nat → Int32} {J : Nat → Nat → Int64} {t : Bool × Bool} {x1 : Int32} {c : Nat} (h : c ∉ [56]) : pA_J7_fill_53178_56 n I A J t x1 c = A c := (fr_qAw5_J7_fill_53178_56 (fr_subc rfl h))
theorem fr_qA13_J7_fill_53178_57 {n : Nat} {I : Nat → Nat → Int32} {A : Nat → Nat → Int32} {J : Nat → Nat → Int64} {t : Bool × Bool} {x1 : Int32} {A5 : Nat → Nat → Int32} {v5_2 : Int32} {c : Nat} (h : c ∉ [57]) : qA13_J7_fill_53178_57 n I A J t x1 A5 v5_2 c = A5 c := (fr_uc h (List.mem_of_getElem? (i := 0) rfl) rfl)
theorem fr_lp_J7_fill_53178_57_5_c0 {n : Nat} {I : Nat → Nat → Int32} {A : Nat → Nat → Int32} {J : Nat → Nat → Int64} {t : Bool × Bool} {x1 : Int32} {c : Nat} (h : c ∉ [57]) : ∀ (f : Nat) (A5 : Nat → Nat → Int32) (v5_2 : Int32), (lp_J7_fill_53178_57_5 n I A J t x1 f A5 v5_2).1 c = A5 c := by
  intro f
  induction f with
  | zero => intro _ _; rfl
  | succ f ih =>
    intro A5 v5_2
    unfold lp_J7_fill_53178_57_5
    split
    · exact rfl
    · exact (ih _ _).trans (fr_qA13_J7_fill_53178_57 (fr_subc rfl h))
theorem fr_qAw5_J7_fill_53178_57 {n : Nat} {I : Nat → Nat → Int32} {A : Nat → Nat → Int32} {J : Nat → Nat → Int64} {t : Bool × Bool} {x1 : Int32} {c : Nat} (h : c ∉ [57]) : qAw5_J7_fill_53178_57 n I A J t x1 c = A c := (fr_lp_J7_fill_53178_57_5_c0 (fr_subc rfl h) _ _ _)
theorem fr_pA_J7_fill_53178_57 {n : Nat} {I : Nat → Nat → Int32} {A : Nat → Nat → Int32} {J : Nat → Nat → Int64} {t : Bool × Bool} {x1 : Int32} {c : Nat} (h : c ∉ [57]) : pA_J7_fill_53178_57 n I A J t x1 c = A c := (fr_qAw5_J7_fill_53178_57 (fr_subc rfl h))
theorem fr_qA13_J7_fill_53178_58 {n : Nat} {I : Nat → Nat → Int32} {A : Nat → Nat → Int32} {J : Nat → Nat → Int64} {t : Bool × Bool} {x1 : Int32} {A5 : Nat → Nat → Int32} {v5_2 : Int32} {c : Nat} (h : c ∉ [58]) : qA13_J7_fill_53178_58 n I A J t x1 A5 v5_2 c = A5 c := (fr_uc h (List.mem_of_getElem? (i := 0) rfl) rfl)
theorem fr_lp_J7_fill_53178_58_5_c0 {n : Nat} {I : Nat → Nat → Int32} {A : Nat → Nat → Int32} {J : Nat → Nat → Int64} {t : Bool × Bool} {x1 : Int32} {c : Nat} (h : c ∉ [58]) : ∀ (f : Nat) (A5 : Nat → Nat → Int32) (v5_2 : Int32), (lp_J7_fill_53178_58_5 n I A J t x1 f A5 v5_2).1 c = A5 c := by
  intro f
  induction f with
  | zero => intro _ _; rfl
  | succ f ih =>
    intro A5 v5_2
    unfold lp_J7_fill_53178_58_5
    split
    · exact rfl
    · exact (ih _ _).trans (fr_qA13_J7_fill_53178_58 (fr_subc rfl h))
theorem fr_qAw5_J7_fill_53178_58 {n : Nat} {I : Nat → Nat → Int32} {A : Nat → Nat → Int32} {J : Nat → Nat → Int64} {t : Bool × Bool} {x1 : Int32} {c : Nat} (h : c ∉ [58]) : qAw5_J7_fill_53178_58 n I A J t x1 c = A c := (fr_lp_J7_fill_53178_58_5_c0 (fr_subc rfl h) _ _ _)
theorem fr_pA_J7_fill_53178_58 {n : Nat} {I : Nat → Nat → Int32} {A : Nat → Nat → Int32} {J : Nat → Nat → Int64} {t : Bool × Bool} {x1 : Int32} {c : Nat} (h : c ∉ [58]) : pA_J7_fill_53178_58 n I A J t x1 c = A c := (fr_qAw5_J7_fill_53178_58 (fr_subc rfl h))
theorem fr_qA13_J7_fill_53178_59 {n : Nat} {I : Nat → Nat → Int32} {A : Nat → Nat → Int32} {J : Nat → Nat → Int64} {t : Bool × Bool} {x1 : Int32} {A5 : Nat → Nat → Int32} {v5_2 : Int32} {c : Nat} (h : c ∉ [59]) : qA13_J7_fill_53178_59 n I A J t x1 A5 v5_2 c = A5 c := (fr_uc h (List.mem_of_getElem? (i := 0) rfl) rfl)
theorem fr_lp_J7_fill_53178_59_5_c0 {n : Nat} {I : Nat → Nat → Int32} {A : Nat → Nat → Int32} {J : Nat → Nat → Int64} {t : Bool × Bool} {x1 : Int32} {c : Nat} (h : c ∉ [59]) : ∀ (f : Nat) (A5 : Nat → Nat → Int32) (v5_2 : Int32), (lp_J7_fill_53178_59_5 n I A J t x1 f A5 v5_2).1 c = A5 c := by
  intro f
  induction f with
  | zero => intro _ _; rfl
  | succ f ih =>
    intro A5 v5_2
    unfold lp_J7_fill_53178_59_5
    split
    · exact rfl
    · exact (ih _ _).trans (fr_qA13_J7_fill_53178_59 (fr_subc rfl h))
theorem fr_qAw5_J7_fill_53178_59 {n : Nat} {I : Nat → Nat → Int32} {A : Nat → Nat → Int32} {J : Nat → Nat → Int64} {t : Bool × Bool} {x1 : Int32} {c : Nat} (h : c ∉ [59]) : qAw5_J7_fill_53178_59 n I A J t x1 c = A c := (fr_lp_J7_fill_53178_59_5_c0 (fr_subc rfl h) _ _ _)
theorem fr_pA_J7_fill_53178_59 {n : Nat} {I : Nat → Nat → Int32} {A : Nat → Nat → Int32} {J : Nat → Nat → Int64} {t : Bool × Bool} {x1 : Int32} {c : Nat} (h : c ∉ [59]) : pA_J7_fill_53178_59 n I A J t x1 c = A c := (fr_qAw5_J7_fill_53178_59 (fr_subc rfl h))
theorem fr_qA13_J7_fill_53178_47 {n : Nat} {I : Nat → Nat → Int32} {A : Nat → Nat → Int32} {J : Nat → Nat → Int64} {t : Bool × Bool} {x1 : Int32} {A5 : Nat → Nat → Int32} {v5_2 : Int32} {c : Nat} (h : c ∉ [47]) : qA13_J7_fill_53178_47 n I A J t x1 A5 v5_2 c = A5 c := (fr_uc h (List.mem_of_getElem? (i := 0) rfl) rfl)
theorem fr_lp_J7_fill_53178_47_5_c0 {n : Nat} {I : Nat → Nat → Int32} {A : Nat → Nat → Int32} {J : Nat → Nat → Int64} {t : Bool × Bool} {x1 : Int32} {c : Nat} (h : c ∉ [47]) : ∀ (f : Nat) (A5 : Nat → Nat → Int32) (v5_2 : Int32), (lp_J7_fill_53178_47_5 n I A J t x1 f A5 v5_2).1 c = A5 c := by
  intro f
  induction f with
  | zero => intro _ _; rfl
  | succ f ih =>
    intro A5 v5_2
    unfold lp_J7_fill_53178_47_5
    split
    · exact rfl
    · exact (ih _ _).trans (fr_qA13_J7_fill_53178_47 (fr_subc rfl h))
theorem fr_qAw5_J7_fill_53178_47 {n : Nat} {I : Nat → Nat → Int32} {A : Nat → Nat → Int32} {J : Nat → Nat → Int64} {t : Bool × Bool} {x1 : Int32} {c : Nat} (h : c ∉ [47]) : qAw5_J7_fill_53178_47 n I A J t x1 c = A c := (fr_lp_J7_fill_53178_47_5_c0 (fr_subc rfl h) _ _ _)
theorem fr_pA_J7_fill_53178_47 {n : Nat} {I : Nat → Nat → Int32} {A : Nat → Nat → Int32} {J : Nat → Nat → Int64} {t : Bool × Bool} {x1 : Int32} {c : Nat} (h : c ∉ [47]) : pA_J7_fill_53178_47 n I A J t x1 c = A c := (fr_qAw5_J7_fill_53178_47 (fr_subc rfl h))
theorem fr_qA13_J7_fill_53178_50 {n : Nat} {I : Nat → Nat → Int32} {A : Nat → Nat → Int32} {J : Nat → Nat → Int64} {t : Bool × Bool} {x1 : Int32} {A5 : Nat → Nat → Int32} {v5_2 : Int32} {c : Nat} (h : c ∉ [50]) : qA13_J7_fill_53178_50 n I A J t x1 A5 v5_2 c = A5 c := (fr_uc h (List.mem_of_getElem? (i := 0) rfl) rfl)
theorem fr_lp_J7_fill_53178_50_5_c0 {n : Nat} {I : Nat → Nat → Int32} {A : Nat → Nat → Int32} {J : Nat → Nat → Int64} {t : Bool × Bool} {x1 : Int32} {c : Nat} (h : c ∉ [50]) : ∀ (f : Nat) (A5 : Nat → Nat → Int32) (v5_2 : Int32), (lp_J7_fill_53178_50_5 n I A J t x1 f A5 v5_2).1 c = A5 c := by
  intro f
  induction f with
  | zero => intro _ _; rfl
  | succ f ih =>
    intro A5 v5_2
    unfold lp_J7_fill_53178_50_5
    split
    · exact rfl
    · exact (ih _ _).trans (fr_qA13_J7_fill_53178_50 (fr_subc rfl h))
theorem fr_qAw5_J7_fill_53178_50 {n : Nat} {I : Nat → Nat → Int32} {A : Nat → Nat → Int32} {J : Nat → Nat → Int64} {t : Bool × Bool} {x1 : Int32} {c : Nat} (h : c ∉ [50]) : qAw5_J7_fill_53178_50 n I A J t x1 c = A c := (fr_lp_J7_fill_53178_50_5_c0 (fr_subc rfl h) _ _ _)
theorem fr_pA_J7_fill_53178_50 {n : Nat} {I : Nat → Nat → Int32} {A : Nat → Nat → Int32} {J : Nat → Nat → Int64} {t : Bool × Bool} {x1 : Int32} {c : Nat} (h : c ∉ [50]) : pA_J7_fill_53178_50 n I A J t x1 c = A c := (fr_qAw5_J7_fill_53178_50 (fr_subc rfl h))
theorem fr_pA_X0_renew_29 {n : Nat} {I : Nat → Nat → Int32} {A : Nat → Nat → Int32} {J : Nat → Nat → Int64} {t : Bool × Bool} {c : Nat} (h : c ∉ [30, 31]) : pA_X0_renew_29 n I A J t c = A c := ((fr_pA_J7_fill_53178_31 (fr_subc rfl h)).trans (fr_pA_J7_fill_53178_30 (fr_subc rfl h)))
theorem fr_qA19_X0_add_29 {n : Nat} {I : Nat → Nat → Int32} {A : Nat → Nat → Int32} {J : Nat → Nat → Int64} {t : Bool × Bool} {x1 : Int32} {x2 : Int32} {x3 : Int32} {x4 : Int32} {c : Nat} (h : c ∉ [30]) : qA19_X0_add_29 n I A J t x1 x2 x3 x4 c = A c := (fr_uc h (List.mem_of_getElem? (i := 0) rfl) rfl)
theorem fr_qA30_X0_add_29 {n : Nat} {I : Nat → Nat → Int32} {A : Nat → Nat → Int32} {J : Nat → Nat → Int64} {t : Bool × Bool} {x1 : Int32} {x2 : Int32} {x3 : Int32} {x4 : Int32} {c : Nat} (h : c ∉ [30, 31]) : qA30_X0_add_29 n I A J t x1 x2 x3 x4 c = A c := (fr_uc h (List.mem_of_getElem? (i := 1) rfl) (fr_qA19_X0_add_29 (fr_subc rfl h)))
theorem fr_pA_X0_add_29 {n : Nat} {I : Nat → Nat → Int32} {A : Nat → Nat → Int32} {J : Nat → Nat → Int64} {t : Bool × Bool} {x1 : Int32} {x2 : Int32} {x3 : Int32} {x4 : Int32} {c : Nat} (h : c ∉ [30, 31]) : pA_X0_add_29 n I A J t x1 x2 x3 x4 c = A c := (fr_qA30_X0_add_29 (fr_subc rfl h))
theorem fr_qI2_X5_renew_53 {n : Nat} {I : Nat → Nat → Int32} {A : Nat → Nat → Int32} {J : Nat → Nat → Int64} {t : Bool × Bool} {x1 : Int32} {c k : Nat} (h : (c, k) ∉ [(53, 7)]) : qI2_X5_renew_53 n I A J t x1 c k = I c k := (fr_up h (List.mem_of_getElem? (i := 0) rfl) rfl)
theorem fr_qI7_X5_renew_53 {n : Nat} {I : Nat → Nat → Int32} {A : Nat → Nat → Int32} {J : Nat → Nat → Int64} {t : Bool × Bool} {x1 : Int32} {c k : Nat} (h : (c, k) ∉ [(53, 6), (53, 7)]) : qI7_X5_renew_53 n I A J t x1 c k = I c k := (fr_up h (List.mem_of_getElem? (i := 0) rfl) (fr_qI2_X5_renew_53 (fr_subp rfl h)))
theorem fr_pI_X5_renew_53 {n : Nat} {I : Nat → Nat → Int32} {A : Nat → Nat → Int32} {J : Nat → Nat → Int64} {t : Bool × Bool} {x1 : Int32} {c k : Nat} (h : (c, k) ∉ [(53, 6), (53, 7)]) : pI_X5_renew_53 n I A J t x1 c k = I c k := (fr_qI7_X5_renew_53 (fr_subp rfl h))
theorem fr_pA_X5_renew_53 {n : Nat} {I : Nat → Nat → Int32} {A : Nat → Nat → Int32} {J : Nat → Nat → Int64} {t : Bool × Bool} {x1 : Int32} {c : Nat} (h : c ∉ [54, 55, 56, 57, 58, 59]) : pA_X5_renew_53 n I A J t x1 c = A c := ((fr_pA_J7_fill_53178_59 (fr_subc rfl h)).trans ((fr_pA_J7_fill_53178_58 (fr_subc rfl h)).trans ((fr_pA_J7_fill_53178_57 (fr_subc rfl h)).trans ((fr_pA_J7_fill_53178_56 (fr_subc rfl h)).trans ((fr_pA_J7_fill_53178_55 (fr_subc rfl h)).trans (fr_pA_J7_fill_53178_54 (fr_subc rfl h)))))))
theorem fr_qA15_X5_put_53 {n : Nat} {I : Nat → Nat → Int32} {A : Nat → Nat → Int32} {J : Nat → Nat → Int64} {t : Bool × Bool} {x1 : Int32} {x2 : Int32} {x3 : Int32} {x4 : Int32} {x5 : Int32} {x6 : Int32} {c : Nat} (h : c ∉ [54]) : qA15_X5_put_53 n I A J t x1 x2 x3 x4 x5 x6 c = A c := (fr_uc h (List.mem_of_getElem? (i := 0) rfl) rfl)
theorem fr_qA24_X5_put_53 {n : Nat} {I : Nat → Nat → Int32} {A : Nat → Nat → Int32} {J : Nat → Nat → Int64} {t : Bool × Bool} {x1 : Int32} {x2 : Int32} {x3 : Int32} {x4 : Int32} {x5 : Int32} {x6 : Int32} {c : Nat} (h : c ∉ [54, 55]) : qA24_X5_put_53 n I A J t x1 x2 x3 x4 x5 x6 c = A c := (fr_uc h (List.mem_of_getElem? (i := 1) rfl) (fr_qA15_X5_put_53 (fr_subc rfl h)))
theorem fr_qA33_X5_put_53 {n : Nat} {I : Nat → Nat → Int32} {A : Nat → Nat → Int32} {J : Nat → Nat → Int64} {t : Bool × Bool} {x1 : Int32} {x2 : Int32} {x3 : Int32} {x4 : Int32} {x5 : Int32} {x6 : Int32} {c : Nat} (h : c ∉ [54, 55, 56]) : qA33_X5_put_53 n I A J t x1 x2 x3 x4 x5 x6 c = A c := (fr_uc h (List.mem_of_getElem? (i := 2) rfl) (fr_qA24_X5_put_53 (fr_subc rfl h)))
theorem fr_qA42_X5_put_53 {n : Nat} {I : Nat → Nat → Int32} {A : Nat → Nat → Int32} {J : Nat → Nat → Int64} {t : Bool × Bool} {x1 : Int32} {x2 : Int32} {x3 : Int32} {x4 : Int32} {x5 : Int32} {x6 : Int32} {c : Nat} (h : c ∉ [54, 55, 56, 57]) : qA42_X5_put_53 n I A J t x1 x2 x3 x4 x5 x6 c = A c := (fr_uc h (List.mem_of_getElem? (i := 3) rfl) (fr_qA33_X5_put_53 (fr_subc rfl h)))
theorem fr_qA55_X5_put_53 {n : Nat} {I : Nat → Nat → Int32} {A : Nat → Nat → Int32} {J : Nat → Nat → Int64} {t : Bool × Bool} {x1 : Int32} {x2 : Int32} {x3 : Int32} {x4 : Int32} {x5 : Int32} {x6 : Int32} {c : Nat} (h : c ∉ [54, 55, 56, 57, 58]) : qA55_X5_put_53 n I A J t x1 x2 x3 x4 x5 x6 c = A c := (fr_uc h (List.mem_of_getElem? (i := 4) rfl) (fr_qA42_X5_put_53 (fr_subc rfl h)))
theorem fr_pA_X5_put_53 {n : Nat} {I : Nat → Nat → Int32} {A : Nat → Nat → Int32} {J : Nat → Nat → Int64} {t : Bool × Bool} {x1 : Int32} {x2 : Int32} {x3 : Int32} {x4 : Int32} {x5 : Int32} {x6 : Int32} {c : Nat} (h : c ∉ [54, 55, 56, 57, 58]) : pA_X5_put_53 n I A J t x1 x2 x3 x4 x5 x6 c = A c := (fr_qA55_X5_put_53 (fr_subc rfl h))
theorem fr_qA9_X5_addListeners_53 {n : Nat} {I : Nat → Nat → Int32} {A : Nat → Nat → Int32} {J : Nat → Nat → Int64} {t : Bool × Bool} {x1 : Int32} {x2 : Int32} {c : Nat} (h : c ∉ [59]) : qA9_X5_addListeners_53 n I A J t x1 x2 c = A c := (fr_uc h (List.mem_of_getElem? (i := 0) rfl) rfl)
theorem fr_pA_X5_addListeners_53 {n : Nat} {I : Nat → Nat → Int32} {A : Nat → Nat → Int32} {J : Nat → Nat → Int64} {t : Bool × Bool} {x1 : Int32} {x2 : Int32} {c : Nat} (h : c ∉ [59]) : pA_X5_addListeners_53 n I A J t x1 x2 c = A c := (fr_qA9_X5_addListeners_53 (fr_subc rfl h))
theorem fr_qI18_X3_renew_46 {n : Nat} {I : Nat → Nat → Int32} {A : Nat → Nat → Int32} {J : Nat → Nat → Int64} {t : Bool × Bool} {c k : Nat} (h : (c, k) ∉ [(46, 5)]) : qI18_X3_renew_46 n I A J t c k = I c k := (fr_up h (List.mem_of_getElem? (i := 0) rfl) rfl)
theorem fr_pI_X3_renew_46 {n : Nat} {I : Nat → Nat → Int32} {A : Nat → Nat → Int32} {J : Nat → Nat → Int64} {t : Bool × Bool} {c k : Nat} (h : (c, k) ∉ [(46, 5)]) : pI_X3_renew_46 n I A J t c k = I c k := (fr_qI18_X3_renew_46 (fr_subp rfl h))
theorem fr_pA_X3_renew_46 {n : Nat} {I : Nat → Nat → Int32} {A : Nat → Nat → Int32} {J : Nat → Nat → Int64} {t : Bool × Bool} {c : Nat} (h : c ∉ [47, 50]) : pA_X3_renew_46 n I A J t c = A c := ((fr_pA_J7_fill_53178_50 (fr_subc rfl h)).trans (fr_pA_J7_fill_53178_47 (fr_subc rfl h)))
theorem fr_qA23_X3_offer_46 {n : Nat} {I : Nat → Nat → Int32} {A : Nat → Nat → Int32} {J : Nat → Nat → Int64} {t : Bool × Bool} {x1 : Int32} {x2 : Int32} {x3 : Int32} {x4 : Int32} {x5 : Int32} {c : Nat} (h : c ∉ [47]) : qA23_X3_offer_46 n I A J t x1 x2 x3 x4 x5 c = A c := (fr_uc h (List.mem_of_getElem? (i := 0) rfl) rfl)
theorem fr_qA31_X3_offer_46 {n : Nat} {I : Nat → Nat → Int32} {A : Nat → Nat → Int32} {J : Nat → Nat → Int64} {t : Bool × Bool} {x1 : Int32} {x2 : Int32} {x3 : Int32} {x4 : Int32} {x5 : Int32} {c : Nat} (h : c ∉ [47, 48]) : qA31_X3_offer_46 n I A J t x1 x2 x3 x4 x5 c = A c := (fr_uc h (List.mem_of_getElem? (i := 1) rfl) (fr_qA23_X3_offer_46 (fr_subc rfl h)))
theorem fr_qA40_X3_offer_46 {n : Nat} {I : Nat → Nat → Int32} {A : Nat → Nat → Int32} {J : Nat → Nat → Int64} {t : Bool × Bool} {x1 : Int32} {x2 : Int32} {x3 : Int32} {x4 : Int32} {x5 : Int32} {c : Nat} (h : c ∉ [47, 48, 49]) : qA40_X3_offer_46 n I A J t x1 x2 x3 x4 x5 c = A c := (fr_uc h (List.mem_of_getElem? (i := 2) rfl) (fr_qA31_X3_offer_46 (fr_subc rfl h)))
theorem fr_qA93_X3_offer_46 {n : Nat} {I : Nat → Nat → Int32} {A : Nat → Nat → Int32} {J : Nat → Nat → Int64} {t : Bool × Bool} {x1 : Int32} {x2 : Int32} {x3 : Int32} {x4 : Int32} {x5 : Int32} {c : Nat} (h : c ∉ [47, 48, 49, 51]) : qA93_X3_offer_46 n I A J t x1 x2 x3 x4 x5 c = A c := (fr_uc h (List.mem_of_getElem? (i := 3) rfl) (fr_qA40_X3_offer_46 (fr_subc rfl h)))
theorem fr_qI101_X3_offer_46 {n : Nat} {I : Nat → Nat → Int32} {A : Nat → Nat → Int32} {J : Nat → Nat → Int64} {t : Bool × Bool} {x1 : Int32} {x2 : Int32} {x3 : Int32} {x4 : Int32} {x5 : Int32} {c k : Nat} (h : (c, k) ∉ [(46, 5)]) : qI101_X3_offer_46 n I A J t x1 x2 x3 x4 x5 c k = I c k := (fr_up h (List.mem_of_getElem? (i := 0) rfl) rfl)
theorem fr_qIm81_X3_offer_46 {n : Nat} {I : Nat → Nat → Int32} {A : Nat → Nat → Int32} {J : Nat → Nat → Int64} {t : Bool × Bool} {x1 : Int32} {x2 : Int32} {x3 : Int32} {x4 : Int32} {x5 : Int32} {c k : Nat} (h : (c, k) ∉ [(46, 5)]) : qIm81_X3_offer_46 n I A J t x1 x2 x3 x4 x5 c k = I c k := (fr_itep rfl (fr_qI101_X3_offer_46 (fr_subp rfl h)))
theorem fr_qAm81_X3_offer_46 {n : Nat} {I : Nat → Nat → Int32} {A : Nat → Nat → Int32} {J : Nat → Nat → Int64} {t : Bool × Bool} {x1 : Int32} {x2 : Int32} {x3 : Int32} {x4 : Int32} {x5 : Int32} {c : Nat} (h : c ∉ [47, 48, 49, 51]) : qAm81_X3_offer_46 n I A J t x1 x2 x3 x4 x5 c = A c := (fr_itec (fr_qA40_X3_offer_46 (fr_subc rfl h)) (fr_qA93_X3_offer_46 (fr_subc rfl h)))
theorem fr_qIm72_X3_offer_46 {n : Nat} {I : Nat → Nat → Int32} {A : Nat → Nat → Int32} {J : Nat → Nat → Int64} {t : Bool × Bool} {x1 : Int32} {x2 : Int32} {x3 : Int32} {x4 : Int32} {x5 : Int32} {c k : Nat} (h : (c, k) ∉ [(46, 5)]) : qIm72_X3_offer_46 n I A J t x1 x2 x3 x4 x5 c k = I c k := (fr_itep (fr_qIm81_X3_offer_46 (fr_subp rfl h)) rfl)
theorem fr_qAm72_X3_offer_46 {n : Nat} {I : Nat → Nat → Int32} {A : Nat → Nat → Int32} {J : Nat → Nat → Int64} {t : Bool × Bool} {x1 : Int32} {x2 : Int32} {x3 : Int32} {x4 : Int32} {x5 : Int32} {c : Nat} (h : c ∉ [47, 48, 49, 51]) : qAm72_X3_offer_46 n I A J t x1 x2 x3 x4 x5 c = A c := (fr_itec (fr_qAm81_X3_offer_46 (fr_subc rfl h)) (fr_qA40_X3_offer_46 (fr_subc rfl h)))
theorem fr_pI_X3_offer_46 {n : Nat} {I : Nat → Nat → Int32} {A : Nat → Nat → Int32} {J : Nat → Nat → Int64} {t : Bool × Bool} {x1 : Int32} {x2 : Int32} {x3 : Int32} {x4 : Int32} {x5 : Int32} {c k : Nat} (h : (c, k) ∉ [(46, 5)]) : pI_X3_offer_46 n I A J t x1 x2 x3 x4 x5 c k = I c k := (fr_qIm72_X3_offer_46 (fr_subp rfl h))
theorem fr_pA_X3_offer_46 {n : Nat} {I : Nat → Nat → Int32} {A : Nat → Nat → Int32} {J : Nat → Nat → Int64} {t : Bool × Bool} {x1 : Int32} {x2 : Int32} {x3 : Int32} {x4 : Int32} {x5 : Int32} {c : Nat} (h : c ∉ [47, 48, 49, 51]) : pA_X3_offer_46 n I A J t x1 x2 x3 x4 x5 c = A c := (fr_qAm72_X3_offer_46 (fr_subc rfl h))
theorem fr_qA88_X3_choose_46 {n : Nat} {I : Nat → Nat → Int32} {A : Nat → Nat → Int32} {J : Nat → Nat → Int64} {t : Bool × Bool} {x1 : Int32} {A4 : Nat → Nat → Int32} {v4_2 : Int32} {v4_3 : Int32} {c : Nat} (h : c ∉ [50]) : qA88_X3_choose_46 n I A J t x1 A4 v4_2 v4_3 c = A4 c := (fr_uc h (List.mem_of_getElem? (i := 0) rfl) rfl)
theorem fr_qAm73_X3_choose_46 {n : Nat} {I : Nat → Nat → Int32} {A : Nat → Nat → Int32} {J : Nat → Nat → Int64} {t : Bool × Bool} {x1 : Int32} {A4 : Nat → Nat → Int32} {v4_2 : Int32} {v4_3 : Int32} {c : Nat} (h : c ∉ [50]) : qAm73_X3_choose_46 n I A J t x1 A4 v4_2 v4_3 c = A4 c := (fr_itec rfl (fr_qA88_X3_choose_46 (fr_subc rfl h)))
theorem fr_lp_X3_choose_46_4_c0 {n : Nat} {I : Nat → Nat → Int32} {A : Nat → Nat → Int32} {J : Nat → Nat → Int64} {t : Bool × Bool} {x1 : Int32} {c : Nat} (h : c ∉ [50]) : ∀ (f : Nat) (A4 : Nat → Nat → Int32) (v4_2 : Int32) (v4_3 : Int32), (lp_X3_choose_46_4 n I A J t x1 f A4 v4_2 v4_3).1 c = A4 c := by
  intro f
  induction f with
  | zero => intro _ _ _; rfl
  | succ f ih =>
    intro A4 v4_2 v4_3
    unfold lp_X3_choose_46_4
    split
    · exact rfl
    · exact (ih _ _ _).trans (fr_qAm73_X3_choose_46 (fr_subc rfl h))
theorem fr_qAw4_X3_choose_46 {n : Nat} {I : Nat → Nat → Int32} {A : Nat → Nat → Int32} {J : Nat → Nat → Int64} {t : Bool × Bool} {x1 : Int32} {c : Nat} (h : c ∉ [50]) : qAw4_X3_choose_46 n I A J t x1 c = A c := (fr_lp_X3_choose_46_4_c0 (fr_subc rfl h) _ _ _ _)
theorem fr_pA_X3_choose_46 {n : Nat} {I : Nat → Nat → Int32} {A : Nat → Nat → Int32} {J : Nat → Nat → Int64} {t : Bool × Bool} {x1 : Int32} {c : Nat} (h : c ∉ [50]) : pA_X3_choose_46 n I A J t x1 c = A c := (fr_qAw4_X3_choose_46 (fr_subc rfl h))
theorem fr_qA25_X3_solve_46 {n : Nat} {I : Nat → Nat → Int32} {A : Nat → Nat → Int32} {J : Nat → Nat → Int64} {t : Bool × Bool} {x1 : Int32} {A6 : Nat → Nat → Int32} {v6_3 : Int32} {c : Nat} (h : c ∉ [52]) : qA25_X3_solve_46 n I A J t x1 A6 v6_3 c = A6 c := (fr_uc h (List.mem_of_getElem? (i := 0) rfl) rfl)
theorem fr_lp_X3_solve_46_6_c0 {n : Nat} {I : Nat → Nat → Int32} {A : Nat → Nat → Int32} {J : Nat → Nat → Int64} {t : Bool × Bool} {x1 : Int32} {c : Nat} (h : c ∉ [52]) : ∀ (f : Nat) (A6 : Nat → Nat → Int32) (v6_3 : Int32), (lp_X3_solve_46_6 n I A J t x1 f A6 v6_3).1 c = A6 c := by
  intro f
  induction f with
  | zero => intro _ _; rfl
  | succ f ih =>
    intro A6 v6_3
    unfold lp_X3_solve_46_6
    split
    · exact rfl
    · exact (ih _ _).trans (fr_qA25_X3_solve_46 (fr_subc rfl h))
theorem fr_qAw6_X3_solve_46 {n : Nat} {I : Nat → Nat → Int32} {A : Nat → Nat → Int32} {J : Nat → Nat → Int64} {t : Bool × Bool} {x1 : Int32} {c : Nat} (h : c ∉ [52]) : qAw6_X3_solve_46 n I A J t x1 c = A c := (fr_lp_X3_solve_46_6_c0 (fr_subc rfl h) _ _ _)
theorem fr_qA71_X3_solve_46 {n : Nat} {I : Nat → Nat → Int32} {A : Nat → Nat → Int32} {J : Nat → Nat → Int64} {t : Bool × Bool} {x1 : Int32} {A39 : Nat → Nat → Int32} {v39_3 : Int32} {A46 : Nat → Nat → Int32} {v46_4 : Int32} {c : Nat} (h : c ∉ [52]) : qA71_X3_solve_46 n I A J t x1 A39 v39_3 A46 v46_4 c = A46 c := (fr_uc h (List.mem_of_getElem? (i := 0) rfl) rfl)
theorem fr_lp_X3_solve_46_46_c0 {n : Nat} {I : Nat → Nat → Int32} {A : Nat → Nat → Int32} {J : Nat → Nat → Int64} {t : Bool × Bool} {x1 : Int32} {A39 : Nat → Nat → Int32} {v39_3 : Int32} {c : Nat} (h : c ∉ [52]) : ∀ (f : Nat) (A46 : Nat → Nat → Int32) (v46_4 : Int32), (lp_X3_solve_46_46 n I A J t x1 A39 v39_3 f A46 v46_4).1 c = A46 c := by
  intro f
  induction f with
  | zero => intro _ _; rfl
  | succ f ih =>
    intro A46 v46_4
    unfold lp_X3_solve_46_46
    split
    · exact rfl
    · exact (ih _ _).trans (fr_qA71_X3_solve_46 (fr_subc rfl h))
theorem fr_qAw46_X3_solve_46 {n : Nat} {I : Nat → Nat → Int32} {A : Nat → Nat → Int32} {J : Nat → Nat → Int64} {t : Bool × Bool} {x1 : Int32} {A39 : Nat → Nat → Int32} {v39_3 : Int32} {c : Nat} (h : c ∉ [52]) : qAw46_X3_solve_46 n I A J t x1 A39 v39_3 c = A39 c := (fr_lp_X3_solve_46_46_c0 (fr_subc rfl h) _ _ _)
theorem fr_lp_X3_solve_46_39_c0 {n : Nat} {I : Nat → Nat → Int32} {A : Nat → Nat → Int32} {J : Nat → Nat → Int64} {t : Bool × Bool} {x1 : Int32} {c : Nat} (h : c ∉ [52]) : ∀ (f : Nat) (A39 : Nat → Nat → Int32) (v39_3 : Int32), (lp_X3_solve_46_39 n I A J t x1 f A39 v39_3).1 c = A39 c := by
  intro f
  induction f with
  | zero => intro _ _; rfl
  | succ f ih =>
    intro A39 v39_3
    unfold lp_X3_solve_46_39
    split
    · exact rfl
    · exact (ih _ _).trans (fr_qAw46_X3_solve_46 (fr_subc rfl h))
theorem fr_qAw39_X3_solve_46 {n : Nat} {I : Nat → Nat → Int32} {A : Nat → Nat → Int32} {J : Nat → Nat → Int64} {t : Bool × Bool} {x1 : Int32} {c : Nat} (h : c ∉ [52]) : qAw39_X3_solve_46 n I A J t x1 c = A c := ((fr_lp_X3_solve_46_39_c0 (fr_subc rfl h) _ _ _).trans (fr_qAw6_X3_solve_46 (fr_subc rfl h)))
theorem fr_pA_X3_solve_46 {n : Nat} {I : Nat → Nat → Int32} {A : Nat → Nat → Int32} {J : Nat → Nat → Int64} {t : Bool × Bool} {x1 : Int32} {c : Nat} (h : c ∉ [50, 52]) : pA_X3_solve_46 n I A J t x1 c = A c := ((fr_pA_X3_choose_46 (fr_subc rfl h)).trans (fr_qAw39_X3_solve_46 (fr_subc rfl h)))
theorem fr_qI2_X10_renew_37 {n : Nat} {I : Nat → Nat → Int32} {A : Nat → Nat → Int32} {J : Nat → Nat → Int64} {t : Bool × Bool} {c k : Nat} (h : (c, k) ∉ [(37, 8)]) : qI2_X10_renew_37 n I A J t c k = I c k := (fr_up h (List.mem_of_getElem? (i := 0) rfl) rfl)
theorem fr_qI7_X10_renew_37 {n : Nat} {I : Nat → Nat → Int32} {A : Nat → Nat → Int32} {J : Nat → Nat → Int64} {t : Bool × Bool} {c k : Nat} (h : (c, k) ∉ [(37, 7), (37, 8)]) : qI7_X10_renew_37 n I A J t c k = I c k := (fr_up h (List.mem_of_getElem? (i := 0) rfl) (fr_qI2_X10_renew_37 (fr_subp rfl h)))
theorem fr_pI_X10_renew_37 {n : Nat} {I : Nat → Nat → Int32} {A : Nat → Nat → Int32} {J : Nat → Nat → Int64} {t : Bool × Bool} {c k : Nat} (h : (c, k) ∉ [(37, 7), (37, 8)]) : pI_X10_renew_37 n I A J t c k = I c k := (fr_qI7_X10_renew_37 (fr_subp rfl h))
theorem fr_qA19_X10_addStep_37 {n : Nat} {I : Nat → Nat → Int32} {A : Nat → Nat → Int32} {J : Nat → Nat → Int64} {t : Bool × Bool} {x1 : Int32} {x2 : Int32} {c : Nat} (h : c ∉ [42]) : qA19_X10_addStep_37 n I A J t x1 x2 c = A c := (fr_uc h (List.mem_of_getElem? (i := 0) rfl) rfl)
theorem fr_qA29_X10_addStep_37 {n : Nat} {I : Nat → Nat → Int32} {A : Nat → Nat → Int32} {J : Nat → Nat → Int64} {t : Bool × Bool} {x1 : Int32} {x2 : Int32} {c : Nat} (h : c ∉ [42, 43]) : qA29_X10_addStep_37 n I A J t x1 x2 c = A c := (fr_uc h (List.mem_of_getElem? (i := 1) rfl) (fr_qA19_X10_addStep_37 (fr_subc rfl h)))
theorem fr_qI37_X10_addStep_37 {n : Nat} {I : Nat → Nat → Int32} {A : Nat → Nat → Int32} {J : Nat → Nat → Int64} {t : Bool × Bool} {x1 : Int32} {x2 : Int32} {c k : Nat} (h : (c, k) ∉ [(37, 7)]) : qI37_X10_addStep_37 n I A J t x1 x2 c k = I c k := (fr_up h (List.mem_of_getElem? (i := 0) rfl) rfl)
theorem fr_qIm7_X10_addStep_37 {n : Nat} {I : Nat → Nat → Int32} {A : Nat → Nat → Int32} {J : Nat → Nat → Int64} {t : Bool × Bool} {x1 : Int32} {x2 : Int32} {c k : Nat} (h : (c, k) ∉ [(37, 7)]) : qIm7_X10_addStep_37 n I A J t x1 x2 c k = I c k := (fr_itep rfl (fr_qI37_X10_addStep_37 (fr_subp rfl h)))
theorem fr_qAm7_X10_addStep_37 {n : Nat} {I : Nat → Nat → Int32} {A : Nat → Nat → Int32} {J : Nat → Nat → Int64} {t : Bool × Bool} {x1 : Int32} {x2 : Int32} {c : Nat} (h : c ∉ [42, 43]) : qAm7_X10_addStep_37 n I A J t x1 x2 c = A c := (fr_itec rfl (fr_qA29_X10_addStep_37 (fr_subc rfl h)))
theorem fr_pI_X10_addStep_37 {n : Nat} {I : Nat → Nat → Int32} {A : Nat → Nat → Int32} {J : Nat → Nat → Int64} {t : Bool × Bool} {x1 : Int32} {x2 : Int32} {c k : Nat} (h : (c, k) ∉ [(37, 7)]) : pI_X10_addStep_37 n I A J t x1 x2 c k = I c k := (fr_qIm7_X10_addStep_37 (fr_subp rfl h))
theorem fr_pA_X10_addStep_37 {n : Nat} {I : Nat → Nat → Int32} {A : Nat → Nat → Int32} {J : Nat → Nat → Int64} {t : Bool × Bool} {x1 : Int32} {x2 : Int32} {c : Nat} (h : c ∉ [42, 43]) : pA_X10_addStep_37 n I A J t x1 x2 c = A c := (fr_qAm7_X10_addStep_37 (fr_subc rfl h))
theorem fr_qA18_X10_addRule_37 {n : Nat} {I : Nat → Nat → Int32} {A : Nat → Nat → Int32} {J : Nat → Nat → Int64} {t : Bool × Bool} {x1 : Int32} {x2 : Int32} {x3 : Int32} {c : Nat} (h : c ∉ [38]) : qA18_X10_addRule_37 n I A J t x1 x2 x3 c = A c := (fr_uc h (List.mem_of_getElem? (i := 0) rfl) rfl)
theorem fr_qA28_X10_addRule_37 {n : Nat} {I : Nat → Nat → Int32} {A : Nat → Nat → Int32} {J : Nat → Nat → Int64} {t : Bool × Bool} {x1 : Int32} {x2 : Int32} {x3 : Int32} {c : Nat} (h : c ∉ [38, 39]) : qA28_X10_addRule_37 n I A J t x1 x2 x3 c = A c := (fr_uc h (List.mem_of_getElem? (i := 1) rfl) (fr_qA18_X10_addRule_37 (fr_subc rfl h)))
theorem fr_qA38_X10_addRule_37 {n : Nat} {I : Nat → Nat → Int32} {A : Nat → Nat → Int32} {J : Nat → Nat → Int64} {t : Bool × Bool} {x1 : Int32} {x2 : Int32} {x3 : Int32} {c : Nat} (h : c ∉ [38, 39, 40]) : qA38_X10_addRule_37 n I A J t x1 x2 x3 c = A c := (fr_uc h (List.mem_of_getElem? (i := 2) rfl) (fr_qA28_X10_addRule_37 (fr_subc rfl h)))
theorem fr_qA51_X10_addRule_37 {n : Nat} {I : Nat → Nat → Int32} {A : Nat → Nat → Int32} {J : Nat → Nat → Int64} {t : Bool × Bool} {x1 : Int32} {x2 : Int32} {x3 : Int32} {c : Nat} (h : c ∉ [38, 39, 40, 41]) : qA51_X10_addRule_37 n I A J t x1 x2 x3 c = A c := (fr_uc h (List.mem_of_getElem? (i := 3) rfl) (fr_qA38_X10_addRule_37 (fr_subc rfl h)))
theorem fr_qI59_X10_addRule_37 {n : Nat} {I : Nat → Nat → Int32} {A : Nat → Nat → Int32} {J : Nat → Nat → Int64} {t : Bool × Bool} {x1 : Int32} {x2 : Int32} {x3 : Int32} {c k : Nat} (h : (c, k) ∉ [(37, 8)]) : qI59_X10_addRule_37 n I A J t x1 x2 x3 c k = I c k := (fr_up h (List.mem_of_getElem? (i := 0) rfl) rfl)
theorem fr_qIm6_X10_addRule_37 {n : Nat} {I : Nat → Nat → Int32} {A : Nat → Nat → Int32} {J : Nat → Nat → Int64} {t : Bool × Bool} {x1 : Int32} {x2 : Int32} {x3 : Int32} {c k : Nat} (h : (c, k) ∉ [(37, 8)]) : qIm6_X10_addRule_37 n I A J t x1 x2 x3 c k = I c k := (fr_itep rfl (fr_qI59_X10_addRule_37 (fr_subp rfl h)))
theorem fr_qAm6_X10_addRule_37 {n : Nat} {I : Nat → Nat → Int32} {A : Nat → Nat → Int32} {J : Nat → Nat → Int64} {t : Bool × Bool} {x1 : Int32} {x2 : Int32} {x3 : Int32} {c : Nat} (h : c ∉ [38, 39, 40, 41]) : qAm6_X10_addRule_37 n I A J t x1 x2 x3 c = A c := (fr_itec rfl (fr_qA51_X10_addRule_37 (fr_subc rfl h)))
theorem fr_pI_X10_addRule_37 {n : Nat} {I : Nat → Nat → Int32} {A : Nat → Nat → Int32} {J : Nat → Nat → Int64} {t : Bool × Bool} {x1 : Int32} {x2 : Int32} {x3 : Int32} {c k : Nat} (h : (c, k) ∉ [(37, 8)]) : pI_X10_addRule_37 n I A J t x1 x2 x3 c k = I c k := (fr_qIm6_X10_addRule_37 (fr_subp rfl h))
theorem fr_pA_X10_addRule_37 {n : Nat} {I : Nat → Nat → Int32} {A : Nat → Nat → Int32} {J : Nat → Nat → Int64} {t : Bool × Bool} {x1 : Int32} {x2 : Int32} {x3 : Int32} {c : Nat} (h : c ∉ [38, 39, 40, 41]) : pA_X10_addRule_37 n I A J t x1 x2 x3 c = A c := (fr_qAm6_X10_addRule_37 (fr_subc rfl h))
theorem fr_qA88_X10_relsHold_37_45 {n : Nat} {I : Nat → Nat → Int32} {A : Nat → Nat → Int32} {J : Nat → Nat → Int64} {t : Bool × Bool} {x1 : Int32} {A20 : Nat → Nat → Int32} {v20_3 : Int32} {v20_4 : Int32} {c : Nat} (h : c ∉ [44]) : qA88_X10_relsHold_37_45 n I A J t x1 A20 v20_3 v20_4 c = A20 c := (fr_uc h (List.mem_of_getElem? (i := 0) rfl) rfl)
theorem fr_qA146_X10_relsHold_37_45 {n : Nat} {I : Nat → Nat → Int32} {A : Nat → Nat → Int32} {J : Nat → Nat → Int64} {t : Bool × Bool} {x1 : Int32} {A20 : Nat → Nat → Int32} {v20_3 : Int32} {v20_4 : Int32} {c : Nat} (h : c ∉ [44]) : qA146_X10_relsHold_37_45 n I A J t x1 A20 v20_3 v20_4 c = A20 c := (fr_uc h (List.mem_of_getElem? (i := 0) rfl) rfl)
theorem fr_qA88_1_X10_relsHold_37_45 {n : Nat} {I : Nat → Nat → Int32} {A : Nat → Nat → Int32} {J : Nat → Nat → Int64} {t : Bool × Bool} {x1 : Int32} {A20 : Nat → Nat → Int32} {v20_3 : Int32} {v20_4 : Int32} {c : Nat} (h : c ∉ [44]) : qA88_1_X10_relsHold_37_45 n I A J t x1 A20 v20_3 v20_4 c = A20 c := (fr_uc h (List.mem_of_getElem? (i := 0) rfl) rfl)
theorem fr_lp_X10_relsHold_37_45_20_c1 {n : Nat} {I : Nat → Nat → Int32} {A : Nat → Nat → Int32} {J : Nat → Nat → Int64} {t : Bool × Bool} {x1 : Int32} {c : Nat} (h : c ∉ [44]) : ∀ (f : Nat) (A20 : Nat → Nat → Int32) (v20_3 : Int32) (v20_4 : Int32), (lp_X10_relsHold_37_45_20 n I A J t x1 f A20 v20_3 v20_4).2 c = A20 c := by
  intro f
  induction f with
  | zero => intro _ _ _; rfl
  | succ f ih =>
    intro A20 v20_3 v20_4
    unfold lp_X10_relsHold_37_45_20
    split
    · exact rfl
    · split
      · split
        · exact (ih _ _ _).trans (fr_qA88_X10_relsHold_37_45 (fr_subc rfl h))
        · exact rfl
      · split
        · split
          · split
            · split
              · exact rfl
              · exact ih _ _ _
            · exact (ih _ _ _).trans (fr_qA146_X10_relsHold_37_45 (fr_subc rfl h))
          · exact rfl
        · split
          · exact (ih _ _ _).trans (fr_qA88_1_X10_relsHold_37_45 (fr_subc rfl h))
          · exact rfl
theorem fr_pA_X10_relsHold_37_45 {n : Nat} {I : Nat → Nat → Int32} {A : Nat → Nat → Int32} {J : Nat → Nat → Int64} {t : Bool × Bool} {x1 : Int32} {c : Nat} (h : c ∉ [44]) : pA_X10_relsHold_37_45 n I A J t x1 c = A c := (fr_lp_X10_relsHold_37_45_20_c1 (fr_subc rfl h) _ _ _ _)
theorem fr_lp_X10_firstHolding_37_45_2_c1 {n : Nat} {I : Nat → Nat → Int32} {A : Nat → Nat → Int32} {J : Nat → Nat → Int64} {t : Bool × Bool} {x1 : Int32} {c : Nat} (h : c ∉ [44]) : ∀ (f : Nat) (A2 : Nat → Nat → Int32) (v2_3 : Int32), (lp_X10_firstHolding_37_45_2 n I A J t x1 f A2 v2_3).2 c = A2 c := by
  intro f
  induction f with
  | zero => intro _ _; rfl
  | succ f ih =>
    intro A2 v2_3
    unfold lp_X10_firstHolding_37_45_2
    split
    · exact rfl
    · split
      · exact ih _ _
      · split
        · exact ih _ _
        · split
          · exact (ih _ _).trans (fr_pA_X10_relsHold_37_45 (fr_subc rfl h))
          · (try dsimp only); exact (fr_pA_X10_relsHold_37_45 (fr_subc rfl h))
theorem fr_pA_X10_firstHolding_37_45 {n : Nat} {I : Nat → Nat → Int32} {A : Nat → Nat → Int32} {J : Nat → Nat → Int64} {t : Bool × Bool} {x1 : Int32} {c : Nat} (h : c ∉ [44]) : pA_X10_firstHolding_37_45 n I A J t x1 c = A c := (fr_lp_X10_firstHolding_37_45_2_c1 (fr_subc rfl h) _ _ _)
theorem fr_qI2_X10_renew_60 {n : Nat} {I : Nat → Nat → Int32} {A : Nat → Nat → Int32} {J : Nat → Nat → Int64} {t : Bool × Bool} {c k : Nat} (h : (c, k) ∉ [(60, 8)]) : qI2_X10_renew_60 n I A J t c k = I c k := (fr_up h (List.mem_of_getElem? (i := 0) rfl) rfl)
theorem fr_qI7_X10_renew_60 {n : Nat} {I : Nat → Nat → Int32} {A : Nat → Nat → Int32} {J : Nat → Nat → Int64} {t : Bool × Bool} {c k : Nat} (h : (c, k) ∉ [(60, 7), (60, 8)]) : qI7_X10_renew_60 n I A J t c k = I c k := (fr_up h (List.mem_of_getElem? (i := 0) rfl) (fr_qI2_X10_renew_60 (fr_subp rfl h)))
theorem fr_pI_X10_renew_60 {n : Nat} {I : Nat → Nat → Int32} {A : Nat → Nat → Int32} {J : Nat → Nat → Int64} {t : Bool × Bool} {c k : Nat} (h : (c, k) ∉ [(60, 7), (60, 8)]) : pI_X10_renew_60 n I A J t c k = I c k := (fr_qI7_X10_renew_60 (fr_subp rfl h))
theorem fr_qA19_X10_addStep_60 {n : Nat} {I : Nat → Nat → Int32} {A : Nat → Nat → Int32} {J : Nat → Nat → Int64} {t : Bool × Bool} {x1 : Int32} {x2 : Int32} {c : Nat} (h : c ∉ [65]) : qA19_X10_addStep_60 n I A J t x1 x2 c = A c := (fr_uc h (List.mem_of_getElem? (i := 0) rfl) rfl)
theorem fr_qA29_X10_addStep_60 {n : Nat} {I : Nat → Nat → Int32} {A : Nat → Nat → Int32} {J : Nat → Nat → Int64} {t : Bool × Bool} {x1 : Int32} {x2 : Int32} {c : Nat} (h : c ∉ [65, 66]) : qA29_X10_addStep_60 n I A J t x1 x2 c = A c := (fr_uc h (List.mem_of_getElem? (i := 1) rfl) (fr_qA19_X10_addStep_60 (fr_subc rfl h)))
theorem fr_qI37_X10_addStep_60 {n : Nat} {I : Nat → Nat → Int32} {A : Nat → Nat → Int32} {J : Nat → Nat → Int64} {t : Bool × Bool} {x1 : Int32} {x2 : Int32} {c k : Nat} (h : (c, k) ∉ [(60, 7)]) : qI37_X10_addStep_60 n I A J t x1 x2 c k = I c k := (fr_up h (List.mem_of_getElem? (i := 0) rfl) rfl)
theorem fr_qIm7_X10_addStep_60 {n : Nat} {I : Nat → Nat → Int32} {A : Nat → Nat → Int32} {J : Nat → Nat → Int64} {t : Bool × Bool} {x1 : Int32} {x2 : Int32} {c k : Nat} (h : (c, k) ∉ [(60, 7)]) : qIm7_X10_addStep_60 n I A J t x1 x2 c k = I c k := (fr_itep rfl (fr_qI37_X10_addStep_60 (fr_subp rfl h)))
theorem fr_qAm7_X10_addStep_60 {n : Nat} {I : Nat → Nat → Int32} {A : Nat → Nat → Int32} {J : Nat → Nat → Int64} {t : Bool × Bool} {x1 : Int32} {x2 : Int32} {c : Nat} (h : c ∉ [65, 66]) : qAm7_X10_addStep_60 n I A J t x1 x2 c = A c := (fr_itec rfl (fr_qA29_X10_addStep_60 (fr_subc rfl h)))
theorem fr_pI_X10_addStep_60 {n : Nat} {I : Nat → Nat → Int32} {A : Nat → Nat → Int32} {J : Nat → Nat → Int64} {t : Bool × Bool} {x1 : Int32} {x2 : Int32} {c k : Nat} (h : (c, k) ∉ [(60, 7)]) : pI_X10_addStep_60 n I A J t x1 x2 c k = I c k := (fr_qIm7_X10_addStep_60 (fr_subp rfl h))
theorem fr_pA_X10_addStep_60 {n : Nat} {I : Nat → Nat → Int32} {A : Nat → Nat → Int32} {J : Nat → Nat → Int64} {t : Bool × Bool} {x1 : Int32} {x2 : Int32} {c : Nat} (h : c ∉ [65, 66]) : pA_X10_addStep_60 n I A J t x1 x2 c = A c := (fr_qAm7_X10_addStep_60 (fr_subc rfl h))
theorem fr_qA18_X10_addRule_60 {n : Nat} {I : Nat → Nat → Int32} {A : Nat → Nat → Int32} {J : Nat → Nat → Int64} {t : Bool × Bool} {x1 : Int32} {x2 : Int32} {x3 : Int32} {c : Nat} (h : c ∉ [61]) : qA18_X10_addRule_60 n I A J t x1 x2 x3 c = A c := (fr_uc h (List.mem_of_getElem? (i := 0) rfl) rfl)
theorem fr_qA28_X10_addRule_60 {n : Nat} {I : Nat → Nat → Int32} {A : Nat → Nat → Int32} {J : Nat → Nat → Int64} {t : Bool × Bool} {x1 : Int32} {x2 : Int32} {x3 : Int32} {c : Nat} (h : c ∉ [61, 62]) : qA28_X10_addRule_60 n I A J t x1 x2 x3 c = A c := (fr_uc h (List.mem_of_getElem? (i := 1) rfl) (fr_qA18_X10_addRule_60 (fr_subc rfl h)))
theorem fr_qA38_X10_addRule_60 {n : Nat} {I : Nat → Nat → Int32} {A : Nat → Nat → Int32} {J : Nat → Nat → Int64} {t : Bool × Bool} {x1 : Int32} {x2 : Int32} {x3 : Int32} {c : Nat} (h : c ∉ [61, 62, 63]) : qA38_X10_addRule_60 n I A J t x1 x2 x3 c = A c := (fr_uc h (List.mem_of_getElem? (i := 2) rfl) (fr_qA28_X10_addRule_60 (fr_subc rfl h)))
theorem fr_qA51_X10_addRule_60 {n : Nat} {I : Nat → Nat → Int32} {A : Nat → Nat → Int32} {J : Nat → Nat → Int64} {t : Bool × Bool} {x1 : Int32} {x2 : Int32} {x3 : Int32} {c : Nat} (h : c ∉ [61, 62, 63, 64]) : qA51_X10_addRule_60 n I A J t x1 x2 x3 c = A c := (fr_uc h (List.mem_of_getElem? (i := 3) rfl) (fr_qA38_X10_addRule_60 (fr_subc rfl h)))
theorem fr_qI59_X10_addRule_60 {n : Nat} {I : Nat → Nat → Int32} {A : Nat → Nat → Int32} {J : Nat → Nat → Int64} {t : Bool × Bool} {x1 : Int32} {x2 : Int32} {x3 : Int32} {c k : Nat} (h : (c, k) ∉ [(60, 8)]) : qI59_X10_addRule_60 n I A J t x1 x2 x3 c k = I c k := (fr_up h (List.mem_of_getElem? (i := 0) rfl) rfl)
theorem fr_qIm6_X10_addRule_60 {n : Nat} {I : Nat → Nat → Int32} {A : Nat → Nat → Int32} {J : Nat → Nat → Int64} {t : Bool × Bool} {x1 : Int32} {x2 : Int32} {x3 : Int32} {c k : Nat} (h : (c, k) ∉ [(60, 8)]) : qIm6_X10_addRule_60 n I A J t x1 x2 x3 c k = I c k := (fr_itep rfl (fr_qI59_X10_addRule_60 (fr_subp rfl h)))
theorem fr_qAm6_X10_addRule_60 {n : Nat} {I : Nat → Nat → Int32} {A : Nat → Nat → Int32} {J : Nat → Nat → Int64} {t : Bool × Bool} {x1 : Int32} {x2 : Int32} {x3 : Int32} {c : Nat} (h : c ∉ [61, 62, 63, 64]) : qAm6_X10_addRule_60 n I A J t x1 x2 x3 c = A c := (fr_itec rfl (fr_qA51_X10_addRule_60 (fr_subc rfl h)))
theorem fr_pI_X10_addRule_60 {n : Nat} {I : Nat → Nat → Int32} {A : Nat → Nat → Int32} {J : Nat → Nat → Int64} {t : Bool × Bool} {x1 : Int32} {x2 : Int32} {x3 : Int32} {c k : Nat} (h : (c, k) ∉ [(60, 8)]) : pI_X10_addRule_60 n I A J t x1 x2 x3 c k = I c k := (fr_qIm6_X10_addRule_60 (fr_subp rfl h))
theorem fr_pA_X10_addRule_60 {n : Nat} {I : Nat → Nat → Int32} {A : Nat → Nat → Int32} {J : Nat → Nat → Int64} {t : Bool × Bool} {x1 : Int32} {x2 : Int32} {x3 : Int32} {c : Nat} (h : c ∉ [61, 62, 63, 64]) : pA_X10_addRule_60 n I A J t x1 x2 x3 c = A c := (fr_qAm6_X10_addRule_60 (fr_subc rfl h))
theorem fr_qA88_X10_relsHold_60_45 {n : Nat} {I : Nat → Nat → Int32} {A : Nat → Nat → Int32} {J : Nat → Nat → Int64} {t : Bool × Bool} {x1 : Int32} {A20 : Nat → Nat → Int32} {v20_3 : Int32} {v20_4 : Int32} {c : Nat} (h : c ∉ [67]) : qA88_X10_relsHold_60_45 n I A J t x1 A20 v20_3 v20_4 c = A20 c := (fr_uc h (List.mem_of_getElem? (i := 0) rfl) rfl)
theorem fr_qA146_X10_relsHold_60_45 {n : Nat} {I : Nat → Nat → Int32} {A : Nat → Nat → Int32} {J : Nat → Nat → Int64} {t : Bool × Bool} {x1 : Int32} {A20 : Nat → Nat → Int32} {v20_3 : Int32} {v20_4 : Int32} {c : Nat} (h : c ∉ [67]) : qA146_X10_relsHold_60_45 n I A J t x1 A20 v20_3 v20_4 c = A20 c := (fr_uc h (List.mem_of_getElem? (i := 0) rfl) rfl)
theorem fr_qA88_1_X10_relsHold_60_45 {n : Nat} {I : Nat → Nat → Int32} {A : Nat → Nat → Int32} {J : Nat → Nat → Int64} {t : Bool × Bool} {x1 : Int32} {A20 : Nat → Nat → Int32} {v20_3 : Int32} {v20_4 : Int32} {c : Nat} (h : c ∉ [67]) : qA88_1_X10_relsHold_60_45 n I A J t x1 A20 v20_3 v20_4 c = A20 c := (fr_uc h (List.mem_of_getElem? (i := 0) rfl) rfl)
theorem fr_lp_X10_relsHold_60_45_20_c1 {n : Nat} {I : Nat → Nat → Int32} {A : Nat → Nat → Int32} {J : Nat → Nat → Int64} {t : Bool × Bool} {x1 : Int32} {c : Nat} (h : c ∉ [67]) : ∀ (f : Nat) (A20 : Nat → Nat → Int32) (v20_3 : Int32) (v20_4 : Int32), (lp_X10_relsHold_60_45_20 n I A J t x1 f A20 v20_3 v20_4).2 c = A20 c := by
  intro f
  induction f with
  | zero => intro _ _ _; rfl
  | succ f ih =>
    intro A20 v20_3 v20_4
    unfold lp_X10_relsHold_60_45_20
    split
    · exact rfl
    · split
      · split
        · exact (ih _ _ _).trans (fr_qA88_X10_relsHold_60_45 (fr_subc rfl h))
        · exact rfl
      · split
        · split
          · split
            · split
              · exact rfl
              · exact ih _ _ _
            · exact (ih _ _ _).trans (fr_qA146_X10_relsHold_60_45 (fr_subc rfl h))
          · exact rfl
        · split
          · exact (ih _ _ _).trans (fr_qA88_1_X10_relsHold_60_45 (fr_subc rfl h))
          · exact rfl
theorem fr_pA_X10_relsHold_60_45 {n : Nat} {I : Nat → Nat → Int32} {A : Nat → Nat → Int32} {J : Nat → Nat → Int64} {t : Bool × Bool} {x1 : Int32} {c : Nat} (h : c ∉ [67]) : pA_X10_relsHold_60_45 n I A J t x1 c = A c := (fr_lp_X10_relsHold_60_45_20_c1 (fr_subc rfl h) _ _ _ _)
theorem fr_lp_X10_firstHolding_60_45_2_c1 {n : Nat} {I : Nat → Nat → Int32} {A : Nat → Nat → Int32} {J : Nat → Nat → Int64} {t : Bool × Bool} {x1 : Int32} {c : Nat} (h : c ∉ [67]) : ∀ (f : Nat) (A2 : Nat → Nat → Int32) (v2_3 : Int32), (lp_X10_firstHolding_60_45_2 n I A J t x1 f A2 v2_3).2 c = A2 c := by
  intro f
  induction f with
  | zero => intro _ _; rfl
  | succ f ih =>
    intro A2 v2_3
    unfold lp_X10_firstHolding_60_45_2
    split
    · exact rfl
    · split
      · exact ih _ _
      · split
        · exact ih _ _
        · split
          · exact (ih _ _).trans (fr_pA_X10_relsHold_60_45 (fr_subc rfl h))
          · (try dsimp only); exact (fr_pA_X10_relsHold_60_45 (fr_subc rfl h))
theorem fr_pA_X10_firstHolding_60_45 {n : Nat} {I : Nat → Nat → Int32} {A : Nat → Nat → Int32} {J : Nat → Nat → Int64} {t : Bool × Bool} {x1 : Int32} {c : Nat} (h : c ∉ [67]) : pA_X10_firstHolding_60_45 n I A J t x1 c = A c := (fr_lp_X10_firstHolding_60_45_2_c1 (fr_subc rfl h) _ _ _)
theorem fr_qI12_X7_start_34_32 {n : Nat} {I : Nat → Nat → Int32} {A : Nat → Nat → Int32} {J : Nat → Nat → Int64} {t : Bool × Bool} {x1 : Int32} {c k : Nat} (h : (c, k) ∉ [(34, 1)]) : qI12_X7_start_34_32 n I A J t x1 c k = I c k := (fr_up h (List.mem_of_getElem? (i := 0) rfl) rfl)
theorem fr_qI17_X7_start_34_32 {n : Nat} {I : Nat → Nat → Int32} {A : Nat → Nat → Int32} {J : Nat → Nat → Int64} {t : Bool × Bool} {x1 : Int32} {c k : Nat} (h : (c, k) ∉ [(34, 1), (34, 2)]) : qI17_X7_start_34_32 n I A J t x1 c k = I c k := (fr_up h (List.mem_of_getElem? (i := 1) rfl) (fr_qI12_X7_start_34_32 (fr_subp rfl h)))
theorem fr_pI_X7_start_34_32 {n : Nat} {I : Nat → Nat → Int32} {A : Nat → Nat → Int32} {J : Nat → Nat → Int64} {t : Bool × Bool} {x1 : Int32} {c k : Nat} (h : (c, k) ∉ [(34, 1), (34, 2)]) : pI_X7_start_34_32 n I A J t x1 c k = I c k := (fr_qI17_X7_start_34_32 (fr_subp rfl h))
theorem fr_qI33_X7_scanWord_34_txT {n : Nat} {I : Nat → Nat → Int32} {A : Nat → Nat → Int32} {J : Nat → Nat → Int64} {t : Bool × Bool} {I0 : Nat → Nat → Int32} {c k : Nat} (h : (c, k) ∉ [(34, 2)]) : qI33_X7_scanWord_34_txT n I A J t I0 c k = I0 c k := (fr_up h (List.mem_of_getElem? (i := 0) rfl) rfl)
theorem fr_lp_X7_scanWord_34_txT_0_c0 {n : Nat} {I : Nat → Nat → Int32} {A : Nat → Nat → Int32} {J : Nat → Nat → Int64} {t : Bool × Bool} {c k : Nat} (h : (c, k) ∉ [(34, 2)]) : ∀ (f : Nat) (I0 : Nat → Nat → Int32), (lp_X7_scanWord_34_txT_0 n I A J t f I0) c k = I0 c k := by
  intro f
  induction f with
  | zero => intro _; rfl
  | succ f ih =>
    intro I0
    unfold lp_X7_scanWord_34_txT_0
    split
    · exact rfl
    · split
      · exact rfl
      · exact (ih _).trans (fr_qI33_X7_scanWord_34_txT (fr_subp rfl h))
theorem fr_qIw0_X7_scanWord_34_txT {n : Nat} {I : Nat → Nat → Int32} {A : Nat → Nat → Int32} {J : Nat → Nat → Int64} {t : Bool × Bool} {c k : Nat} (h : (c, k) ∉ [(34, 2)]) : qIw0_X7_scanWord_34_txT n I A J t c k = I c k := (fr_lp_X7_scanWord_34_txT_0_c0 (fr_subp rfl h) _ _)
theorem fr_qI41_X7_scanWord_34_txT {n : Nat} {I : Nat → Nat → Int32} {A : Nat → Nat → Int32} {J : Nat → Nat → Int64} {t : Bool × Bool} {c k : Nat} (h : (c, k) ∉ [(34, 2), (34, 3)]) : qI41_X7_scanWord_34_txT n I A J t c k = I c k := (fr_up h (List.mem_of_getElem? (i := 1) rfl) (fr_qIw0_X7_scanWord_34_txT (fr_subp rfl h)))
theorem fr_qI97_X7_scanWord_34_txT {n : Nat} {I : Nat → Nat → Int32} {A : Nat → Nat → Int32} {J : Nat → Nat → Int64} {t : Bool × Bool} {I60 : Nat → Nat → Int32} {v60_1 : Int32} {c k : Nat} (h : (c, k) ∉ [(34, 3)]) : qI97_X7_scanWord_34_txT n I A J t I60 v60_1 c k = I60 c k := (fr_up h (List.mem_of_getElem? (i := 0) rfl) rfl)
theorem fr_lp_X7_scanWord_34_txT_60_c0 {n : Nat} {I : Nat → Nat → Int32} {A : Nat → Nat → Int32} {J : Nat → Nat → Int64} {t : Bool × Bool} {c k : Nat} (h : (c, k) ∉ [(34, 3)]) : ∀ (f : Nat) (I60 : Nat → Nat → Int32) (v60_1 : Int32), (lp_X7_scanWord_34_txT_60 n I A J t f I60 v60_1).1 c k = I60 c k := by
  intro f
  induction f with
  | zero => intro _ _; rfl
  | succ f ih =>
    intro I60 v60_1
    unfold lp_X7_scanWord_34_txT_60
    split
    · exact rfl
    · split
      · exact (ih _ _).trans (fr_qI97_X7_scanWord_34_txT (fr_subp rfl h))
      · exact rfl
theorem fr_qIw60_X7_scanWord_34_txT {n : Nat} {I : Nat → Nat → Int32} {A : Nat → Nat → Int32} {J : Nat → Nat → Int64} {t : Bool × Bool} {c k : Nat} (h : (c, k) ∉ [(34, 2), (34, 3)]) : qIw60_X7_scanWord_34_txT n I A J t c k = I c k := ((fr_lp_X7_scanWord_34_txT_60_c0 (fr_subp rfl h) _ _ _).trans (fr_qI41_X7_scanWord_34_txT (fr_subp rfl h)))
theorem fr_qIm55_X7_scanWord_34_txT {n : Nat} {I : Nat → Nat → Int32} {A : Nat → Nat → Int32} {J : Nat → Nat → Int64} {t : Bool × Bool} {c k : Nat} (h : (c, k) ∉ [(34, 2), (34, 3)]) : qIm55_X7_scanWord_34_txT n I A J t c k = I c k := (fr_itep (fr_qI41_X7_scanWord_34_txT (fr_subp rfl h)) (fr_qIw60_X7_scanWord_34_txT (fr_subp rfl h)))
theorem fr_pI_X7_scanWord_34_txT {n : Nat} {I : Nat → Nat → Int32} {A : Nat → Nat → Int32} {J : Nat → Nat → Int64} {t : Bool × Bool} {c k : Nat} (h : (c, k) ∉ [(34, 2), (34, 3)]) : pI_X7_scanWord_34_txT n I A J t c k = I c k := (fr_qIm55_X7_scanWord_34_txT (fr_subp rfl h))
theorem fr_qI64_X7_scanInt_34_txT {n : Nat} {I : Nat → Nat → Int32} {A : Nat → Nat → Int32} {J : Nat → Nat → Int64} {t : Bool × Bool} {I0 : Nat → Nat → Int32} {c k : Nat} (h : (c, k) ∉ [(34, 5)]) : qI64_X7_scanInt_34_txT n I A J t I0 c k = I0 c k := (fr_up h (List.mem_of_getElem? (i := 0) rfl) rfl)
theorem fr_qI74_X7_scanInt_34_txT {n : Nat} {I : Nat → Nat → Int32} {A : Nat → Nat → Int32} {J : Nat → Nat → Int64} {t : Bool × Bool} {I0 : Nat → Nat → Int32} {c k : Nat} (h : (c, k) ∉ [(34, 2), (34, 5)]) : qI74_X7_scanInt_34_txT n I A J t I0 c k = I0 c k := (fr_up h (List.mem_of_getElem? (i := 0) rfl) (fr_qI64_X7_scanInt_34_txT (fr_subp rfl h)))
theorem fr_lp_X7_scanInt_34_txT_0_c0 {n : Nat} {I : Nat → Nat → Int32} {A : Nat → Nat → Int32} {J : Nat → Nat → Int64} {t : Bool × Bool} {c k : Nat} (h : (c, k) ∉ [(34, 2), (34, 5)]) : ∀ (f : Nat) (I0 : Nat → Nat → Int32), (lp_X7_scanInt_34_txT_0 n I A J t f I0) c k = I0 c k := by
  intro f
  induction f with
  | zero => intro _; rfl
  | succ f ih =>
    intro I0
    unfold lp_X7_scanInt_34_txT_0
    split
    · exact rfl
    · split
      · exact rfl
      · exact (ih _).trans (fr_qI74_X7_scanInt_34_txT (fr_subp rfl h))
theorem fr_qIw0_X7_scanInt_34_txT {n : Nat} {I : Nat → Nat → Int32} {A : Nat → Nat → Int32} {J : Nat → Nat → Int64} {t : Bool × Bool} {c k : Nat} (h : (c, k) ∉ [(34, 2), (34, 5)]) : qIw0_X7_scanInt_34_txT n I A J t c k = I c k := (fr_lp_X7_scanInt_34_txT_0_c0 (fr_subp rfl h) _ _)
theorem fr_qI99_X7_scanInt_34_txT {n : Nat} {I : Nat → Nat → Int32} {A : Nat → Nat → Int32} {J : Nat → Nat → Int64} {t : Bool × Bool} {c k : Nat} (h : (c, k) ∉ [(34, 2), (34, 3), (34, 5)]) : qI99_X7_scanInt_34_txT n I A J t c k = I c k := (fr_up h (List.mem_of_getElem? (i := 1) rfl) (fr_qIw0_X7_scanInt_34_txT (fr_subp rfl h)))
theorem fr_pI_X7_scanInt_34_txT {n : Nat} {I : Nat → Nat → Int32} {A : Nat → Nat → Int32} {J : Nat → Nat → Int64} {t : Bool × Bool} {c k : Nat} (h : (c, k) ∉ [(34, 2), (34, 3), (34, 5)]) : pI_X7_scanInt_34_txT n I A J t c k = I c k := (fr_qI99_X7_scanInt_34_txT (fr_subp rfl h))
theorem fr_qI49_X7_scanSign_34_txT {n : Nat} {I : Nat → Nat → Int32} {A : Nat → Nat → Int32} {J : Nat → Nat → Int64} {t : Bool × Bool} {c k : Nat} (h : (c, k) ∉ [(34, 3)]) : qI49_X7_scanSign_34_txT n I A J t c k = I c k := (fr_up h (List.mem_of_getElem? (i := 0) rfl) rfl)
theorem fr_qI100_X7_scanSign_34_txT {n : Nat} {I : Nat → Nat → Int32} {A : Nat → Nat → Int32} {J : Nat → Nat → Int64} {t : Bool × Bool} {c k : Nat} (h : (c, k) ∉ [(34, 2), (34, 3)]) : qI100_X7_scanSign_34_txT n I A J t c k = I c k := (fr_up h (List.mem_of_getElem? (i := 0) rfl) (fr_qI49_X7_scanSign_34_txT (fr_subp rfl h)))
theorem fr_pI_X7_scanSign_34_txT {n : Nat} {I : Nat → Nat → Int32} {A : Nat → Nat → Int32} {J : Nat → Nat → Int64} {t : Bool × Bool} {c k : Nat} (h : (c, k) ∉ [(34, 2), (34, 3)]) : pI_X7_scanSign_34_txT n I A J t c k = I c k := (fr_qI100_X7_scanSign_34_txT (fr_subp rfl h))
theorem fr_qI5_X7_advance_34_txT {n : Nat} {I : Nat → Nat → Int32} {A : Nat → Nat → Int32} {J : Nat → Nat → Int64} {t : Bool × Bool} {c k : Nat} (h : (c, k) ∉ [(34, 2)]) : qI5_X7_advance_34_txT n I A J t c k = I c k := (fr_up h (List.mem_of_getElem? (i := 0) rfl) rfl)
theorem fr_qI13_X7_advance_34_txT {n : Nat} {I : Nat → Nat → Int32} {A : Nat → Nat → Int32} {J : Nat → Nat → Int64} {t : Bool × Bool} {c k : Nat} (h : (c, k) ∉ [(34, 2), (34, 4)]) : qI13_X7_advance_34_txT n I A J t c k = I c k := (fr_up h (List.mem_of_getElem? (i := 1) rfl) (fr_qI5_X7_advance_34_txT (fr_subp rfl h)))
theorem fr_qI18_X7_advance_34_txT {n : Nat} {I : Nat → Nat → Int32} {A : Nat → Nat → Int32} {J : Nat → Nat → Int64} {t : Bool × Bool} {c k : Nat} (h : (c, k) ∉ [(34, 2), (34, 4), (34, 5)]) : qI18_X7_advance_34_txT n I A J t c k = I c k := (fr_up h (List.mem_of_getElem? (i := 2) rfl) (fr_qI13_X7_advance_34_txT (fr_subp rfl h)))
theorem fr_qIm74_X7_advance_34_txT {n : Nat} {I : Nat → Nat → Int32} {A : Nat → Nat → Int32} {J : Nat → Nat → Int64} {t : Bool × Bool} {c k : Nat} (h : (c, k) ∉ [(34, 2), (34, 3), (34, 4), (34, 5)]) : qIm74_X7_advance_34_txT n I A J t c k = I c k := (fr_itep ((fr_pI_X7_scanSign_34_txT (fr_subp rfl h)).trans (fr_qI18_X7_advance_34_txT (fr_subp rfl h))) ((fr_pI_X7_scanInt_34_txT (fr_subp rfl h)).trans (fr_qI18_X7_advance_34_txT (fr_subp rfl h))))
theorem fr_qIm52_X7_advance_34_txT {n : Nat} {I : Nat → Nat → Int32} {A : Nat → Nat → Int32} {J : Nat → Nat → Int64} {t : Bool × Bool} {c k : Nat} (h : (c, k) ∉ [(34, 2), (34, 3), (34, 4), (34, 5)]) : qIm52_X7_advance_34_txT n I A J t c k = I c k := (fr_itep (fr_qIm74_X7_advance_34_txT (fr_subp rfl h)) ((fr_pI_X7_scanWord_34_txT (fr_subp rfl h)).trans (fr_qI18_X7_advance_34_txT (fr_subp rfl h))))
theorem fr_qI34_X7_advance_34_txT {n : Nat} {I : Nat → Nat → Int32} {A : Nat → Nat → Int32} {J : Nat → Nat → Int64} {t : Bool × Bool} {c k : Nat} (h : (c, k) ∉ [(34, 2), (34, 3), (34, 4), (34, 5)]) : qI34_X7_advance_34_txT n I A J t c k = I c k := (fr_up h (List.mem_of_getElem? (i := 1) rfl) (fr_qI18_X7_advance_34_txT (fr_subp rfl h)))
theorem fr_qIm29_X7_advance_34_txT {n : Nat} {I : Nat → Nat → Int32} {A : Nat → Nat → Int32} {J : Nat → Nat → Int64} {t : Bool × Bool} {c k : Nat} (h : (c, k) ∉ [(34, 2), (34, 3), (34, 4), (34, 5)]) : qIm29_X7_advance_34_txT n I A J t c k = I c k := (fr_itep (fr_qIm52_X7_advance_34_txT (fr_subp rfl h)) (fr_qI34_X7_advance_34_txT (fr_subp rfl h)))
theorem fr_pI_X7_advance_34_txT {n : Nat} {I : Nat → Nat → Int32} {A : Nat → Nat → Int32} {J : Nat → Nat → Int64} {t : Bool × Bool} {c k : Nat} (h : (c, k) ∉ [(34, 2), (34, 3), (34, 4), (34, 5)]) : pI_X7_advance_34_txT n I A J t c k = I c k := (fr_qIm29_X7_advance_34_txT (fr_subp rfl h))
theorem fr_qI12_X4_startRule_33 {n : Nat} {I : Nat → Nat → Int32} {A : Nat → Nat → Int32} {J : Nat → Nat → Int64} {t : Bool × Bool} {x1 : Int32} {c k : Nat} (h : (c, k) ∉ [(33, 7)]) : qI12_X4_startRule_33 n I A J t x1 c k = I c k := (fr_up h (List.mem_of_getElem? (i := 0) rfl) rfl)
theorem fr_qI17_X4_startRule_33 {n : Nat} {I : Nat → Nat → Int32} {A : Nat → Nat → Int32} {J : Nat → Nat → Int64} {t : Bool × Bool} {x1 : Int32} {c k : Nat} (h : (c, k) ∉ [(33, 7), (33, 8)]) : qI17_X4_startRule_33 n I A J t x1 c k = I c k := (fr_up h (List.mem_of_getElem? (i := 1) rfl) (fr_qI12_X4_startRule_33 (fr_subp rfl h)))
theorem fr_qI24_X4_startRule_33 {n : Nat} {I : Nat → Nat → Int32} {A : Nat → Nat → Int32} {J : Nat → Nat → Int64} {t : Bool × Bool} {x1 : Int32} {c k : Nat} (h : (c, k) ∉ [(33, 7), (33, 8), (33, 9)]) : qI24_X4_startRule_33 n I A J t x1 c k = I c k := (fr_up h (List.mem_of_getElem? (i := 2) rfl) (fr_qI17_X4_startRule_33 (fr_subp rfl h)))
theorem fr_qI29_X4_startRule_33 {n : Nat} {I : Nat → Nat → Int32} {A : Nat → Nat → Int32} {J : Nat → Nat → Int64} {t : Bool × Bool} {x1 : Int32} {c k : Nat} (h : (c, k) ∉ [(33, 5), (33, 7), (33, 8), (33, 9)]) : qI29_X4_startRule_33 n I A J t x1 c k = I c k := (fr_up h (List.mem_of_getElem? (i := 0) rfl) (fr_qI24_X4_startRule_33 (fr_subp rfl h)))
theorem fr_qI34_X4_startRule_33 {n : Nat} {I : Nat → Nat → Int32} {A : Nat → Nat → Int32} {J : Nat → Nat → Int64} {t : Bool × Bool} {x1 : Int32} {c k : Nat} (h : (c, k) ∉ [(33, 5), (33, 6), (33, 7), (33, 8), (33, 9)]) : qI34_X4_startRule_33 n I A J t x1 c k = I c k := (fr_up h (List.mem_of_getElem? (i := 1) rfl) (fr_qI29_X4_startRule_33 (fr_subp rfl h)))
theorem fr_pI_X4_startRule_33 {n : Nat} {I : Nat → Nat → Int32} {A : Nat → Nat → Int32} {J : Nat → Nat → Int64} {t : Bool × Bool} {x1 : Int32} {c k : Nat} (h : (c, k) ∉ [(33, 5), (33, 6), (33, 7), (33, 8), (33, 9)]) : pI_X4_startRule_33 n I A J t x1 c k = I c k := (fr_qI34_X4_startRule_33 (fr_subp rfl h))
theorem fr_qA18_X4_putOff_33 {n : Nat} {I : Nat → Nat → Int32} {A : Nat → Nat → Int32} {J : Nat → Nat → Int64} {t : Bool × Bool} {x1 : Int32} {c : Nat} (h : c ∉ [36]) : qA18_X4_putOff_33 n I A J t x1 c = A c := (fr_uc h (List.mem_of_getElem? (i := 0) rfl) rfl)
theorem fr_qI26_X4_putOff_33 {n : Nat} {I : Nat → Nat → Int32} {A : Nat → Nat → Int32} {J : Nat → Nat → Int64} {t : Bool × Bool} {x1 : Int32} {c k : Nat} (h : (c, k) ∉ [(33, 3)]) : qI26_X4_putOff_33 n I A J t x1 c k = I c k := (fr_up h (List.mem_of_getElem? (i := 0) rfl) rfl)
theorem fr_qIm6_X4_putOff_33 {n : Nat} {I : Nat → Nat → Int32} {A : Nat → Nat → Int32} {J : Nat → Nat → Int64} {t : Bool × Bool} {x1 : Int32} {c k : Nat} (h : (c, k) ∉ [(33, 3)]) : qIm6_X4_putOff_33 n I A J t x1 c k = I c k := (fr_itep rfl (fr_qI26_X4_putOff_33 (fr_subp rfl h)))
theorem fr_qAm6_X4_putOff_33 {n : Nat} {I : Nat → Nat → Int32} {A : Nat → Nat → Int32} {J : Nat → Nat → Int64} {t : Bool × Bool} {x1 : Int32} {c : Nat} (h : c ∉ [36]) : qAm6_X4_putOff_33 n I A J t x1 c = A c := (fr_itec rfl (fr_qA18_X4_putOff_33 (fr_subc rfl h)))
theorem fr_pI_X4_putOff_33 {n : Nat} {I : Nat → Nat → Int32} {A : Nat → Nat → Int32} {J : Nat → Nat → Int64} {t : Bool × Bool} {x1 : Int32} {c k : Nat} (h : (c, k) ∉ [(33, 3)]) : pI_X4_putOff_33 n I A J t x1 c k = I c k := (fr_qIm6_X4_putOff_33 (fr_subp rfl h))
theorem fr_pA_X4_putOff_33 {n : Nat} {I : Nat → Nat → Int32} {A : Nat → Nat → Int32} {J : Nat → Nat → Int64} {t : Bool × Bool} {x1 : Int32} {c : Nat} (h : c ∉ [36]) : pA_X4_putOff_33 n I A J t x1 c = A c := (fr_qAm6_X4_putOff_33 (fr_subc rfl h))
theorem fr_qI8_X4_takeUntil_33 {n : Nat} {I : Nat → Nat → Int32} {A : Nat → Nat → Int32} {J : Nat → Nat → Int64} {t : Bool × Bool} {c k : Nat} (h : (c, k) ∉ [(33, 9)]) : qI8_X4_takeUntil_33 n I A J t c k = I c k := (fr_up h (List.mem_of_getElem? (i := 0) rfl) rfl)
theorem fr_qI38_X4_takeUntil_33 {n : Nat} {I : Nat → Nat → Int32} {A : Nat → Nat → Int32} {J : Nat → Nat → Int64} {t : Bool × Bool} {c k : Nat} (h : (c, k) ∉ [(33, 9), (33, 10)]) : qI38_X4_takeUntil_33 n I A J t c k = I c k := (fr_up h (List.mem_of_getElem? (i := 1) rfl) (fr_qI8_X4_takeUntil_33 (fr_subp rfl h)))
theorem fr_qIm27_X4_takeUntil_33 {n : Nat} {I : Nat → Nat → Int32} {A : Nat → Nat → Int32} {J : Nat → Nat → Int64} {t : Bool × Bool} {c k : Nat} (h : (c, k) ∉ [(33, 9), (33, 10)]) : qIm27_X4_takeUntil_33 n I A J t c k = I c k := (fr_itep (fr_qI38_X4_takeUntil_33 (fr_subp rfl h)) (fr_qI8_X4_takeUntil_33 (fr_subp rfl h)))
theorem fr_qIm19_X4_takeUntil_33 {n : Nat} {I : Nat → Nat → Int32} {A : Nat → Nat → Int32} {J : Nat → Nat → Int64} {t : Bool × Bool} {c k : Nat} (h : (c, k) ∉ [(33, 9), (33, 10)]) : qIm19_X4_takeUntil_33 n I A J t c k = I c k := (fr_itep (fr_qI8_X4_takeUntil_33 (fr_subp rfl h)) (fr_qIm27_X4_takeUntil_33 (fr_subp rfl h)))
theorem fr_pI_X4_takeUntil_33 {n : Nat} {I : Nat → Nat → Int32} {A : Nat → Nat → Int32} {J : Nat → Nat → Int64} {t : Bool × Bool} {c k : Nat} (h : (c, k) ∉ [(33, 9), (33, 10)]) : pI_X4_takeUntil_33 n I A J t c k = I c k := (fr_qIm19_X4_takeUntil_33 (fr_subp rfl h))
theorem fr_qI13_X4_takeUnit_33_tFx {n : Nat} {I : Nat → Nat → Int32} {A : Nat → Nat → Int32} {J : Nat → Nat → Int64} {t : Bool × Bool} {x1 : Int32} {c k : Nat} (h : (c, k) ∉ [(33, 5)]) : qI13_X4_takeUnit_33_tFx n I A J t x1 c k = I c k := (fr_up h (List.mem_of_getElem? (i := 0) rfl) rfl)
theorem fr_qIm3_X4_takeUnit_33_tFx {n : Nat} {I : Nat → Nat → Int32} {A : Nat → Nat → Int32} {J : Nat → Nat → Int64} {t : Bool × Bool} {x1 : Int32} {c k : Nat} (h : (c, k) ∉ [(33, 3), (33, 5), (37, 7)]) : qIm3_X4_takeUnit_33_tFx n I A J t x1 c k = I c k := (fr_itep ((fr_pI_X4_putOff_33 (fr_subp rfl h)).trans (fr_qI13_X4_takeUnit_33_tFx (fr_subp rfl h))) (fr_pI_X10_addStep_37 (fr_subp rfl h)))
theorem fr_qAm3_X4_takeUnit_33_tFx {n : Nat} {I : Nat → Nat → Int32} {A : Nat → Nat → Int32} {J : Nat → Nat → Int64} {t : Bool × Bool} {x1 : Int32} {c : Nat} (h : c ∉ [36, 42, 43]) : qAm3_X4_takeUnit_33_tFx n I A J t x1 c = A c := (fr_itec (fr_pA_X4_putOff_33 (fr_subc rfl h)) (fr_pA_X10_addStep_37 (fr_subc rfl h)))
theorem fr_pI_X4_takeUnit_33_tFx {n : Nat} {I : Nat → Nat → Int32} {A : Nat → Nat → Int32} {J : Nat → Nat → Int64} {t : Bool × Bool} {x1 : Int32} {c k : Nat} (h : (c, k) ∉ [(33, 3), (33, 5), (37, 7)]) : pI_X4_takeUnit_33_tFx n I A J t x1 c k = I c k := (fr_qIm3_X4_takeUnit_33_tFx (fr_subp rfl h))
theorem fr_pA_X4_takeUnit_33_tFx {n : Nat} {I : Nat → Nat → Int32} {A : Nat → Nat → Int32} {J : Nat → Nat → Int64} {t : Bool × Bool} {x1 : Int32} {c : Nat} (h : c ∉ [36, 42, 43]) : pA_X4_takeUnit_33_tFx n I A J t x1 c = A c := (fr_qAm3_X4_takeUnit_33_tFx (fr_subc rfl h))
theorem fr_qI49_X4_release_33_tFx {n : Nat} {I : Nat → Nat → Int32} {A : Nat → Nat → Int32} {J : Nat → Nat → Int64} {t : Bool × Bool} {x1 : Int32} {I16 : Nat → Nat → Int32} {A16 : Nat → Nat → Int32} {v16_3 : Int32} {c k : Nat} (h : (c, k) ∉ [(33, 3), (37, 7)]) : qI49_X4_release_33_tFx n I A J t x1 I16 A16 v16_3 c k = I16 c k := (fr_up h (List.mem_of_getElem? (i := 0) rfl) (fr_pI_X10_addStep_37 (fr_subp rfl h)))
theorem fr_lp_X4_release_33_tFx_16_c0 {n : Nat} {I : Nat → Nat → Int32} {A : Nat → Nat → Int32} {J : Nat → Nat → Int64} {t : Bool × Bool} {x1 : Int32} {c k : Nat} (h : (c, k) ∉ [(33, 3), (37, 7)]) : ∀ (f : Nat) (I16 : Nat → Nat → Int32) (A16 : Nat → Nat → Int32) (v16_3 : Int32), (lp_X4_release_33_tFx_16 n I A J t x1 f I16 A16 v16_3).1 c k = I16 c k := by
  intro f
  induction f with
  | zero => intro _ _ _; rfl
  | succ f ih =>
    intro I16 A16 v16_3
    unfold lp_X4_release_33_tFx_16
    split
    · exact rfl
    · split
      · exact rfl
      · exact (ih _ _ _).trans (fr_qI49_X4_release_33_tFx (fr_subp rfl h))
theorem fr_lp_X4_release_33_tFx_16_c1 {n : Nat} {I : Nat → Nat → Int32} {A : Nat → Nat → Int32} {J : Nat → Nat → Int64} {t : Bool × Bool} {x1 : Int32} {c : Nat} (h : c ∉ [42, 43]) : ∀ (f : Nat) (I16 : Nat → Nat → Int32) (A16 : Nat → Nat → Int32) (v16_3 : Int32), (lp_X4_release_33_tFx_16 n I A J t x1 f I16 A16 v16_3).2.1 c = A16 c := by
  intro f
  induction f with
  | zero => intro _ _ _; rfl
  | succ f ih =>
    intro I16 A16 v16_3
    unfold lp_X4_release_33_tFx_16
    split
    · exact rfl
    · split
      · exact rfl
      · exact (ih _ _ _).trans (fr_pA_X10_addStep_37 (fr_subc rfl h))
theorem fr_qIw16_X4_release_33_tFx {n : Nat} {I : Nat → Nat → Int32} {A : Nat → Nat → Int32} {J : Nat → Nat → Int64} {t : Bool × Bool} {x1 : Int32} {c k : Nat} (h : (c, k) ∉ [(33, 3), (37, 7)]) : qIw16_X4_release_33_tFx n I A J t x1 c k = I c k := (fr_lp_X4_release_33_tFx_16_c0 (fr_subp rfl h) _ _ _ _)
theorem fr_qAw16_X4_release_33_tFx {n : Nat} {I : Nat → Nat → Int32} {A : Nat → Nat → Int32} {J : Nat → Nat → Int64} {t : Bool × Bool} {x1 : Int32} {c : Nat} (h : c ∉ [42, 43]) : qAw16_X4_release_33_tFx n I A J t x1 c = A c := (fr_lp_X4_release_33_tFx_16_c1 (fr_subc rfl h) _ _ _ _)
theorem fr_pI_X4_release_33_tFx {n : Nat} {I : Nat → Nat → Int32} {A : Nat → Nat → Int32} {J : Nat → Nat → Int64} {t : Bool × Bool} {x1 : Int32} {c k : Nat} (h : (c, k) ∉ [(33, 3), (37, 7)]) : pI_X4_release_33_tFx n I A J t x1 c k = I c k := (fr_qIw16_X4_release_33_tFx (fr_subp rfl h))
theorem fr_pA_X4_release_33_tFx {n : Nat} {I : Nat → Nat → Int32} {A : Nat → Nat → Int32} {J : Nat → Nat → Int64} {t : Bool × Bool} {x1 : Int32} {c : Nat} (h : c ∉ [42, 43]) : pA_X4_release_33_tFx n I A J t x1 c = A c := (fr_qAw16_X4_release_33_tFx (fr_subc rfl h))
theorem fr_qI77_X4_takeSign_33_tFx {n : Nat} {I : Nat → Nat → Int32} {A : Nat → Nat → Int32} {J : Nat → Nat → Int64} {t : Bool × Bool} {x1 : Int32} {c k : Nat} (h : (c, k) ∉ [(33, 3), (33, 6), (37, 7)]) : qI77_X4_takeSign_33_tFx n I A J t x1 c k = I c k := (fr_up h (List.mem_of_getElem? (i := 1) rfl) (fr_pI_X4_release_33_tFx (fr_subp rfl h)))
theorem fr_qIm54_X4_takeSign_33_tFx {n : Nat} {I : Nat → Nat → Int32} {A : Nat → Nat → Int32} {J : Nat → Nat → Int64} {t : Bool × Bool} {x1 : Int32} {c k : Nat} (h : (c, k) ∉ [(33, 3), (33, 6), (37, 7)]) : qIm54_X4_takeSign_33_tFx n I A J t x1 c k = I c k := (fr_itep (fr_pI_X4_release_33_tFx (fr_subp rfl h)) ((fr_pI_X4_putOff_33 (fr_subp rfl h)).trans (fr_qI77_X4_takeSign_33_tFx (fr_subp rfl h))))
theorem fr_qAm54_X4_takeSign_33_tFx {n : Nat} {I : Nat → Nat → Int32} {A : Nat → Nat → Int32} {J : Nat → Nat → Int64} {t : Bool × Bool} {x1 : Int32} {c : Nat} (h : c ∉ [36, 42, 43]) : qAm54_X4_takeSign_33_tFx n I A J t x1 c = A c := (fr_itec (fr_pA_X4_release_33_tFx (fr_subc rfl h)) ((fr_pA_X4_putOff_33 (fr_subc rfl h)).trans (fr_pA_X4_release_33_tFx (fr_subc rfl h))))
theorem fr_qI46_X4_takeSign_33_tFx {n : Nat} {I : Nat → Nat → Int32} {A : Nat → Nat → Int32} {J : Nat → Nat → Int64} {t : Bool × Bool} {x1 : Int32} {c k : Nat} (h : (c, k) ∉ [(33, 3), (33, 6), (37, 7)]) : qI46_X4_takeSign_33_tFx n I A J t x1 c k = I c k := (fr_up h (List.mem_of_getElem? (i := 1) rfl) (fr_pI_X4_release_33_tFx (fr_subp rfl h)))
theorem fr_qIm41_X4_takeSign_33_tFx {n : Nat} {I : Nat → Nat → Int32} {A : Nat → Nat → Int32} {J : Nat → Nat → Int64} {t : Bool × Bool} {x1 : Int32} {c k : Nat} (h : (c, k) ∉ [(33, 3), (33, 6), (37, 7)]) : qIm41_X4_takeSign_33_tFx n I A J t x1 c k = I c k := (fr_itep (fr_qI46_X4_takeSign_33_tFx (fr_subp rfl h)) (fr_qIm54_X4_takeSign_33_tFx (fr_subp rfl h)))
theorem fr_qAm41_X4_takeSign_33_tFx {n : Nat} {I : Nat → Nat → Int32} {A : Nat → Nat → Int32} {J : Nat → Nat → Int64} {t : Bool × Bool} {x1 : Int32} {c : Nat} (h : c ∉ [36, 42, 43]) : qAm41_X4_takeSign_33_tFx n I A J t x1 c = A c := (fr_itec (fr_pA_X4_release_33_tFx (fr_subc rfl h)) (fr_qAm54_X4_takeSign_33_tFx (fr_subc rfl h)))
theorem fr_qI18_X4_takeSign_33_tFx {n : Nat} {I : Nat → Nat → Int32} {A : Nat → Nat → Int32} {J : Nat → Nat → Int64} {t : Bool × Bool} {x1 : Int32} {c k : Nat} (h : (c, k) ∉ [(33, 3), (33, 5), (37, 7)]) : qI18_X4_takeSign_33_tFx n I A J t x1 c k = I c k := (fr_up h (List.mem_of_getElem? (i := 1) rfl) (fr_pI_X4_release_33_tFx (fr_subp rfl h)))
theorem fr_qI32_X4_takeSign_33_tFx {n : Nat} {I : Nat → Nat → Int32} {A : Nat → Nat → Int32} {J : Nat → Nat → Int64} {t : Bool × Bool} {x1 : Int32} {c k : Nat} (h : (c, k) ∉ [(33, 3), (33, 5), (37, 7)]) : qI32_X4_takeSign_33_tFx n I A J t x1 c k = I c k := (fr_up h (List.mem_of_getElem? (i := 0) rfl) (fr_qI18_X4_takeSign_33_tFx (fr_subp rfl h)))
theorem fr_qIm8_X4_takeSign_33_tFx {n : Nat} {I : Nat → Nat → Int32} {A : Nat → Nat → Int32} {J : Nat → Nat → Int64} {t : Bool × Bool} {x1 : Int32} {c k : Nat} (h : (c, k) ∉ [(33, 3), (33, 5), (33, 6), (37, 7)]) : qIm8_X4_takeSign_33_tFx n I A J t x1 c k = I c k := (fr_itep (fr_qI32_X4_takeSign_33_tFx (fr_subp rfl h)) (fr_qIm41_X4_takeSign_33_tFx (fr_subp rfl h)))
theorem fr_qAm8_X4_takeSign_33_tFx {n : Nat} {I : Nat → Nat → Int32} {A : Nat → Nat → Int32} {J : Nat → Nat → Int64} {t : Bool × Bool} {x1 : Int32} {c : Nat} (h : c ∉ [36, 42, 43]) : qAm8_X4_takeSign_33_tFx n I A J t x1 c = A c := (fr_itec (fr_pA_X4_release_33_tFx (fr_subc rfl h)) (fr_qAm41_X4_takeSign_33_tFx (fr_subc rfl h)))
theorem fr_pI_X4_takeSign_33_tFx {n : Nat} {I : Nat → Nat → Int32} {A : Nat → Nat → Int32} {J : Nat → Nat → Int64} {t : Bool × Bool} {x1 : Int32} {c k : Nat} (h : (c, k) ∉ [(33, 3), (33, 5), (33, 6), (37, 7)]) : pI_X4_takeSign_33_tFx n I A J t x1 c k = I c k := (fr_qIm8_X4_takeSign_33_tFx (fr_subp rfl h))
theorem fr_pA_X4_takeSign_33_tFx {n : Nat} {I : Nat → Nat → Int32} {A : Nat → Nat → Int32} {J : Nat → Nat → Int64} {t : Bool × Bool} {x1 : Int32} {c : Nat} (h : c ∉ [36, 42, 43]) : pA_X4_takeSign_33_tFx n I A J t x1 c = A c := (fr_qAm8_X4_takeSign_33_tFx (fr_subc rfl h))
theorem fr_qI11_X4_take_33_tFx {n : Nat} {I : Nat → Nat → Int32} {A : Nat → Nat → Int32} {J : Nat → Nat → Int64} {t : Bool × Bool} {x1 : Int32} {c k : Nat} (h : (c, k) ∉ [(33, 4)]) : qI11_X4_take_33_tFx n I A J t x1 c k = I c k := (fr_up h (List.mem_of_getElem? (i := 0) rfl) rfl)
theorem fr_qIm74_X4_take_33_tFx {n : Nat} {I : Nat → Nat → Int32} {A : Nat → Nat → Int32} {J : Nat → Nat → Int64} {t : Bool × Bool} {x1 : Int32} {c k : Nat} (h : (c, k) ∉ [(33, 3), (33, 4), (33, 5), (33, 6), (37, 7)]) : qIm74_X4_take_33_tFx n I A J t x1 c k = I c k := (fr_itep ((fr_pI_X4_takeSign_33_tFx (fr_subp rfl h)).trans (fr_qI11_X4_take_33_tFx (fr_subp rfl h))) (fr_qI11_X4_take_33_tFx (fr_subp rfl h)))
theorem fr_qAm74_X4_take_33_tFx {n : Nat} {I : Nat → Nat → Int32} {A : Nat → Nat → Int32} {J : Nat → Nat → Int64} {t : Bool × Bool} {x1 : Int32} {c : Nat} (h : c ∉ [36, 42, 43]) : qAm74_X4_take_33_tFx n I A J t x1 c = A c := (fr_itec (fr_pA_X4_takeSign_33_tFx (fr_subc rfl h)) rfl)
theorem fr_qIm60_X4_take_33_tFx {n : Nat} {I : Nat → Nat → Int32} {A : Nat → Nat → Int32} {J : Nat → Nat → Int64} {t : Bool × Bool} {x1 : Int32} {c k : Nat} (h : (c, k) ∉ [(33, 3), (33, 4), (33, 5), (33, 6), (37, 7)]) : qIm60_X4_take_33_tFx n I A J t x1 c k = I c k := (fr_itep ((fr_pI_X4_takeUnit_33_tFx (fr_subp rfl h)).trans (fr_qI11_X4_take_33_tFx (fr_subp rfl h))) (fr_qIm74_X4_take_33_tFx (fr_subp rfl h)))
theorem fr_qAm60_X4_take_33_tFx {n : Nat} {I : Nat → Nat → Int32} {A : Nat → Nat → Int32} {J : Nat → Nat → Int64} {t : Bool × Bool} {x1 : Int32} {c : Nat} (h : c ∉ [36, 42, 43]) : qAm60_X4_take_33_tFx n I A J t x1 c = A c := (fr_itec (fr_pA_X4_takeUnit_33_tFx (fr_subc rfl h)) (fr_qAm74_X4_take_33_tFx (fr_subc rfl h)))
theorem fr_qIm47_X4_take_33_tFx {n : Nat} {I : Nat → Nat → Int32} {A : Nat → Nat → Int32} {J : Nat → Nat → Int64} {t : Bool × Bool} {x1 : Int32} {c k : Nat} (h : (c, k) ∉ [(33, 3), (33, 4), (33, 5), (33, 6), (33, 9), (33, 10), (37, 7)]) : qIm47_X4_take_33_tFx n I A J t x1 c k = I c k := (fr_itep ((fr_pI_X4_takeUntil_33 (fr_subp rfl h)).trans (fr_qI11_X4_take_33_tFx (fr_subp rfl h))) (fr_qIm60_X4_take_33_tFx (fr_subp rfl h)))
theorem fr_qAm47_X4_take_33_tFx {n : Nat} {I : Nat → Nat → Int32} {A : Nat → Nat → Int32} {J : Nat → Nat → Int64} {t : Bool × Bool} {x1 : Int32} {c : Nat} (h : c ∉ [36, 42, 43]) : qAm47_X4_take_33_tFx n I A J t x1 c = A c := (fr_itec rfl (fr_qAm60_X4_take_33_tFx (fr_subc rfl h)))
theorem fr_qI39_X4_take_33_tFx {n : Nat} {I : Nat → Nat → Int32} {A : Nat → Nat → Int32} {J : Nat → Nat → Int64} {t : Bool × Bool} {x1 : Int32} {c k : Nat} (h : (c, k) ∉ [(33, 4), (33, 8)]) : qI39_X4_take_33_tFx n I A J t x1 c k = I c k := (fr_up h (List.mem_of_getElem? (i := 1) rfl) (fr_qI11_X4_take_33_tFx (fr_subp rfl h)))
theorem fr_qIm28_X4_take_33_tFx {n : Nat} {I : Nat → Nat → Int32} {A : Nat → Nat → Int32} {J : Nat → Nat → Int64} {t : Bool × Bool} {x1 : Int32} {c k : Nat} (h : (c, k) ∉ [(33, 3), (33, 4), (33, 5), (33, 6), (33, 8), (33, 9), (33, 10), (37, 7)]) : qIm28_X4_take_33_tFx n I A J t x1 c k = I c k := (fr_itep (fr_qI39_X4_take_33_tFx (fr_subp rfl h)) (fr_qIm47_X4_take_33_tFx (fr_subp rfl h)))
theorem fr_qAm28_X4_take_33_tFx {n : Nat} {I : Nat → Nat → Int32} {A : Nat → Nat → Int32} {J : Nat → Nat → Int64} {t : Bool × Bool} {x1 : Int32} {c : Nat} (h : c ∉ [36, 42, 43]) : qAm28_X4_take_33_tFx n I A J t x1 c = A c := (fr_itec rfl (fr_qAm47_X4_take_33_tFx (fr_subc rfl h)))
theorem fr_qIm15_X4_take_33_tFx {n : Nat} {I : Nat → Nat → Int32} {A : Nat → Nat → Int32} {J : Nat → Nat → Int64} {t : Bool × Bool} {x1 : Int32} {c k : Nat} (h : (c, k) ∉ [(33, 3), (33, 4), (33, 5), (33, 6), (33, 7), (33, 8), (33, 9), (33, 10), (37, 7)]) : qIm15_X4_take_33_tFx n I A J t x1 c k = I c k := (fr_itep ((fr_pI_X4_startRule_33 (fr_subp rfl h)).trans (fr_qI11_X4_take_33_tFx (fr_subp rfl h))) (fr_qIm28_X4_take_33_tFx (fr_subp rfl h)))
theorem fr_qAm15_X4_take_33_tFx {n : Nat} {I : Nat → Nat → Int32} {A : Nat → Nat → Int32} {J : Nat → Nat → Int64} {t : Bool × Bool} {x1 : Int32} {c : Nat} (h : c ∉ [36, 42, 43]) : qAm15_X4_take_33_tFx n I A J t x1 c = A c := (fr_itec rfl (fr_qAm28_X4_take_33_tFx (fr_subc rfl h)))
theorem fr_qIm84_X4_take_33_tFx {n : Nat} {I : Nat → Nat → Int32} {A : Nat → Nat → Int32} {J : Nat → Nat → Int64} {t : Bool × Bool} {x1 : Int32} {c k : Nat} (h : (c, k) ∉ [(33, 3), (33, 4), (33, 5), (33, 6), (33, 7), (33, 8), (33, 9), (33, 10), (37, 7), (37, 8)]) : qIm84_X4_take_33_tFx n I A J t x1 c k = I c k := (fr_itep ((fr_pI_X10_addRule_37 (fr_subp rfl h)).trans (fr_qIm15_X4_take_33_tFx (fr_subp rfl h))) (fr_qIm15_X4_take_33_tFx (fr_subp rfl h)))
theorem fr_qAm84_X4_take_33_tFx {n : Nat} {I : Nat → Nat → Int32} {A : Nat → Nat → Int32} {J : Nat → Nat → Int64} {t : Bool × Bool} {x1 : Int32} {c : Nat} (h : c ∉ [36, 38, 39, 40, 41, 42, 43]) : qAm84_X4_take_33_tFx n I A J t x1 c = A c := (fr_itec ((fr_pA_X10_addRule_37 (fr_subc rfl h)).trans (fr_qAm15_X4_take_33_tFx (fr_subc rfl h))) (fr_qAm15_X4_take_33_tFx (fr_subc rfl h)))
theorem fr_pI_X4_take_33_tFx {n : Nat} {I : Nat → Nat → Int32} {A : Nat → Nat → Int32} {J : Nat → Nat → Int64} {t : Bool × Bool} {x1 : Int32} {c k : Nat} (h : (c, k) ∉ [(33, 3), (33, 4), (33, 5), (33, 6), (33, 7), (33, 8), (33, 9), (33, 10), (37, 7), (37, 8)]) : pI_X4_take_33_tFx n I A J t x1 c k = I c k := (fr_qIm84_X4_take_33_tFx (fr_subp rfl h))
theorem fr_pA_X4_take_33_tFx {n : Nat} {I : Nat → Nat → Int32} {A : Nat → Nat → Int32} {J : Nat → Nat → Int64} {t : Bool × Bool} {x1 : Int32} {c : Nat} (h : c ∉ [36, 38, 39, 40, 41, 42, 43]) : pA_X4_take_33_tFx n I A J t x1 c = A c := (fr_qAm84_X4_take_33_tFx (fr_subc rfl h))
theorem fr_qI13_X4_takeUnit_33_tTx {n : Nat} {I : Nat → Nat → Int32} {A : Nat → Nat → Int32} {J : Nat → Nat → Int64} {t : Bool × Bool} {x1 : Int32} {c k : Nat} (h : (c, k) ∉ [(33, 5)]) : qI13_X4_takeUnit_33_tTx n I A J t x1 c k = I c k := (fr_up h (List.mem_of_getElem? (i := 0) rfl) rfl)
theorem fr_qIm3_X4_takeUnit_33_tTx {n : Nat} {I : Nat → Nat → Int32} {A : Nat → Nat → Int32} {J : Nat → Nat → Int64} {t : Bool × Bool} {x1 : Int32} {c k : Nat} (h : (c, k) ∉ [(33, 3), (33, 5), (60, 7)]) : qIm3_X4_takeUnit_33_tTx n I A J t x1 c k = I c k := (fr_itep ((fr_pI_X4_putOff_33 (fr_subp rfl h)).trans (fr_qI13_X4_takeUnit_33_tTx (fr_subp rfl h))) (fr_pI_X10_addStep_60 (fr_subp rfl h)))
theorem fr_qAm3_X4_takeUnit_33_tTx {n : Nat} {I : Nat → Nat → Int32} {A : Nat → Nat → Int32} {J : Nat → Nat → Int64} {t : Bool × Bool} {x1 : Int32} {c : Nat} (h : c ∉ [36, 65, 66]) : qAm3_X4_takeUnit_33_tTx n I A J t x1 c = A c := (fr_itec (fr_pA_X4_putOff_33 (fr_subc rfl h)) (fr_pA_X10_addStep_60 (fr_subc rfl h)))
theorem fr_pI_X4_takeUnit_33_tTx {n : Nat} {I : Nat → Nat → Int32} {A : Nat → Nat → Int32} {J : Nat → Nat → Int64} {t : Bool × Bool} {x1 : Int32} {c k : Nat} (h : (c, k) ∉ [(33, 3), (33, 5), (60, 7)]) : pI_X4_takeUnit_33_tTx n I A J t x1 c k = I c k := (fr_qIm3_X4_takeUnit_33_tTx (fr_subp rfl h))
theorem fr_pA_X4_takeUnit_33_tTx {n : Nat} {I : Nat → Nat → Int32} {A : Nat → Nat → Int32} {J : Nat → Nat → Int64} {t : Bool × Bool} {x1 : Int32} {c : Nat} (h : c ∉ [36, 65, 66]) : pA_X4_takeUnit_33_tTx n I A J t x1 c = A c := (fr_qAm3_X4_takeUnit_33_tTx (fr_subc rfl h))
theorem fr_qI49_X4_release_33_tTx {n : Nat} {I : Nat → Nat → Int32} {A : Nat → Nat → Int32} {J : Nat → Nat → Int64} {t : Bool × Bool} {x1 : Int32} {I16 : Nat → Nat → Int32} {A16 : Nat → Nat → Int32} {v16_3 : Int32} {c k : Nat} (h : (c, k) ∉ [(33, 3), (60, 7)]) : qI49_X4_release_33_tTx n I A J t x1 I16 A16 v16_3 c k = I16 c k := (fr_up h (List.mem_of_getElem? (i := 0) rfl) (fr_pI_X10_addStep_60 (fr_subp rfl h)))
theorem fr_lp_X4_release_33_tTx_16_c0 {n : Nat} {I : Nat → Nat → Int32} {A : Nat → Nat → Int32} {J : Nat → Nat → Int64} {t : Bool × Bool} {x1 : Int32} {c k : Nat} (h : (c, k) ∉ [(33, 3), (60, 7)]) : ∀ (f : Nat) (I16 : Nat → Nat → Int32) (A16 : Nat → Nat → Int32) (v16_3 : Int32), (lp_X4_release_33_tTx_16 n I A J t x1 f I16 A16 v16_3).1 c k = I16 c k := by
  intro f
  induction f with
  | zero => intro _ _ _; rfl
  | succ f ih =>
    intro I16 A16 v16_3
    unfold lp_X4_release_33_tTx_16
    split
    · exact rfl
    · split
      · exact rfl
      · exact (ih _ _ _).trans (fr_qI49_X4_release_33_tTx (fr_subp rfl h))
theorem fr_lp_X4_release_33_tTx_16_c1 {n : Nat} {I : Nat → Nat → Int32} {A : Nat → Nat → Int32} {J : Nat → Nat → Int64} {t : Bool × Bool} {x1 : Int32} {c : Nat} (h : c ∉ [65, 66]) : ∀ (f : Nat) (I16 : Nat → Nat → Int32) (A16 : Nat → Nat → Int32) (v16_3 : Int32), (lp_X4_release_33_tTx_16 n I A J t x1 f I16 A16 v16_3).2.1 c = A16 c := by
  intro f
  induction f with
  | zero => intro _ _ _; rfl
  | succ f ih =>
    intro I16 A16 v16_3
    unfold lp_X4_release_33_tTx_16
    split
    · exact rfl
    · split
      · exact rfl
      · exact (ih _ _ _).trans (fr_pA_X10_addStep_60 (fr_subc rfl h))
theorem fr_qIw16_X4_release_33_tTx {n : Nat} {I : Nat → Nat → Int32} {A : Nat → Nat → Int32} {J : Nat → Nat → Int64} {t : Bool × Bool} {x1 : Int32} {c k : Nat} (h : (c, k) ∉ [(33, 3), (60, 7)]) : qIw16_X4_release_33_tTx n I A J t x1 c k = I c k := (fr_lp_X4_release_33_tTx_16_c0 (fr_subp rfl h) _ _ _ _)
theorem fr_qAw16_X4_release_33_tTx {n : Nat} {I : Nat → Nat → Int32} {A : Nat → Nat → Int32} {J : Nat → Nat → Int64} {t : Bool × Bool} {x1 : Int32} {c : Nat} (h : c ∉ [65, 66]) : qAw16_X4_release_33_tTx n I A J t x1 c = A c := (fr_lp_X4_release_33_tTx_16_c1 (fr_subc rfl h) _ _ _ _)
theorem fr_pI_X4_release_33_tTx {n : Nat} {I : Nat → Nat → Int32} {A : Nat → Nat → Int32} {J : Nat → Nat → Int64} {t : Bool × Bool} {x1 : Int32} {c k : Nat} (h : (c, k) ∉ [(33, 3), (60, 7)]) : pI_X4_release_33_tTx n I A J t x1 c k = I c k := (fr_qIw16_X4_release_33_tTx (fr_subp rfl h))
theorem fr_pA_X4_release_33_tTx {n : Nat} {I : Nat → Nat → Int32} {A : Nat → Nat → Int32} {J : Nat → Nat → Int64} {t : Bool × Bool} {x1 : Int32} {c : Nat} (h : c ∉ [65, 66]) : pA_X4_release_33_tTx n I A J t x1 c = A c := (fr_qAw16_X4_release_33_tTx (fr_subc rfl h))
theorem fr_qI77_X4_takeSign_33_tTx {n : Nat} {I : Nat → Nat → Int32} {A : Nat → Nat → Int32} {J : Nat → Nat → Int64} {t : Bool × Bool} {x1 : Int32} {c k : Nat} (h : (c, k) ∉ [(33, 3), (33, 6), (60, 7)]) : qI77_X4_takeSign_33_tTx n I A J t x1 c k = I c k := (fr_up h (List.mem_of_getElem? (i := 1) rfl) (fr_pI_X4_release_33_tTx (fr_subp rfl h)))
theorem fr_qIm54_X4_takeSign_33_tTx {n : Nat} {I : Nat → Nat → Int32} {A : Nat → Nat → Int32} {J : Nat → Nat → Int64} {t : Bool × Bool} {x1 : Int32} {c k : Nat} (h : (c, k) ∉ [(33, 3), (33, 6), (60, 7)]) : qIm54_X4_takeSign_33_tTx n I A J t x1 c k = I c k := (fr_itep (fr_pI_X4_release_33_tTx (fr_subp rfl h)) ((fr_pI_X4_putOff_33 (fr_subp rfl h)).trans (fr_qI77_X4_takeSign_33_tTx (fr_subp rfl h))))
theorem fr_qAm54_X4_takeSign_33_tTx {n : Nat} {I : Nat → Nat → Int32} {A : Nat → Nat → Int32} {J : Nat → Nat → Int64} {t : Bool × Bool} {x1 : Int32} {c : Nat} (h : c ∉ [36, 65, 66]) : qAm54_X4_takeSign_33_tTx n I A J t x1 c = A c := (fr_itec (fr_pA_X4_release_33_tTx (fr_subc rfl h)) ((fr_pA_X4_putOff_33 (fr_subc rfl h)).trans (fr_pA_X4_release_33_tTx (fr_subc rfl h))))
theorem fr_qI46_X4_takeSign_33_tTx {n : Nat} {I : Nat → Nat → Int32} {A : Nat → Nat → Int32} {J : Nat → Nat → Int64} {t : Bool × Bool} {x1 : Int32} {c k : Nat} (h : (c, k) ∉ [(33, 3), (33, 6), (60, 7)]) : qI46_X4_takeSign_33_tTx n I A J t x1 c k = I c k := (fr_up h (List.mem_of_getElem? (i := 1) rfl) (fr_pI_X4_release_33_tTx (fr_subp rfl h)))
theorem fr_qIm41_X4_takeSign_33_tTx {n : Nat} {I : Nat → Nat → Int32} {A : Nat → Nat → Int32} {J : Nat → Nat → Int64} {t : Bool × Bool} {x1 : Int32} {c k : Nat} (h : (c, k) ∉ [(33, 3), (33, 6), (60, 7)]) : qIm41_X4_takeSign_33_tTx n I A J t x1 c k = I c k := (fr_itep (fr_qI46_X4_takeSign_33_tTx (fr_subp rfl h)) (fr_qIm54_X4_takeSign_33_tTx (fr_subp rfl h)))
theorem fr_qAm41_X4_takeSign_33_tTx {n : Nat} {I : Nat → Nat → Int32} {A : Nat → Nat → Int32} {J : Nat → Nat → Int64} {t : Bool × Bool} {x1 : Int32} {c : Nat} (h : c ∉ [36, 65, 66]) : qAm41_X4_takeSign_33_tTx n I A J t x1 c = A c := (fr_itec (fr_pA_X4_release_33_tTx (fr_subc rfl h)) (fr_qAm54_X4_takeSign_33_tTx (fr_subc rfl h)))
theorem fr_qI18_X4_takeSign_33_tTx {n : Nat} {I : Nat → Nat → Int32} {A : Nat → Nat → Int32} {J : Nat → Nat → Int64} {t : Bool × Bool} {x1 : Int32} {c k : Nat} (h : (c, k) ∉ [(33, 3), (33, 5), (60, 7)]) : qI18_X4_takeSign_33_tTx n I A J t x1 c k = I c k := (fr_up h (List.mem_of_getElem? (i := 1) rfl) (fr_pI_X4_release_33_tTx (fr_subp rfl h)))
theorem fr_qI32_X4_takeSign_33_tTx {n : Nat} {I : Nat → Nat → Int32} {A : Nat → Nat → Int32} {J : Nat → Nat → Int64} {t : Bool × Bool} {x1 : Int32} {c k : Nat} (h : (c, k) ∉ [(33, 3), (33, 5), (60, 7)]) : qI32_X4_takeSign_33_tTx n I A J t x1 c k = I c k := (fr_up h (List.mem_of_getElem? (i := 0) rfl) (fr_qI18_X4_takeSign_33_tTx (fr_subp rfl h)))
theorem fr_qIm8_X4_takeSign_33_tTx {n : Nat} {I : Nat → Nat → Int32} {A : Nat → Nat → Int32} {J : Nat → Nat → Int64} {t : Bool × Bool} {x1 : Int32} {c k : Nat} (h : (c, k) ∉ [(33, 3), (33, 5), (33, 6), (60, 7)]) : qIm8_X4_takeSign_33_tTx n I A J t x1 c k = I c k := (fr_itep (fr_qI32_X4_takeSign_33_tTx (fr_subp rfl h)) (fr_qIm41_X4_takeSign_33_tTx (fr_subp rfl h)))
theorem fr_qAm8_X4_takeSign_33_tTx {n : Nat} {I : Nat → Nat → Int32} {A : Nat → Nat → Int32} {J : Nat → Nat → Int64} {t : Bool × Bool} {x1 : Int32} {c : Nat} (h : c ∉ [36, 65, 66]) : qAm8_X4_takeSign_33_tTx n I A J t x1 c = A c := (fr_itec (fr_pA_X4_release_33_tTx (fr_subc rfl h)) (fr_qAm41_X4_takeSign_33_tTx (fr_subc rfl h)))
theorem fr_pI_X4_takeSign_33_tTx {n : Nat} {I : Nat → Nat → Int32} {A : Nat → Nat → Int32} {J : Nat → Nat → Int64} {t : Bool × Bool} {x1 : Int32} {c k : Nat} (h : (c, k) ∉ [(33, 3), (33, 5), (33, 6), (60, 7)]) : pI_X4_takeSign_33_tTx n I A J t x1 c k = I c k := (fr_qIm8_X4_takeSign_33_tTx (fr_subp rfl h))
theorem fr_pA_X4_takeSign_33_tTx {n : Nat} {I : Nat → Nat → Int32} {A : Nat → Nat → Int32} {J : Nat → Nat → Int64} {t : Bool × Bool} {x1 : Int32} {c : Nat} (h : c ∉ [36, 65, 66]) : pA_X4_takeSign_33_tTx n I A J t x1 c = A c := (fr_qAm8_X4_takeSign_33_tTx (fr_subc rfl h))
theorem fr_qI11_X4_take_33_tTx {n : Nat} {I : Nat → Nat → Int32} {A : Nat → Nat → Int32} {J : Nat → Nat → Int64} {t : Bool × Bool} {x1 : Int32} {c k : Nat} (h : (c, k) ∉ [(33, 4)]) : qI11_X4_take_33_tTx n I A J t x1 c k = I c k := (fr_up h (List.mem_of_getElem? (i := 0) rfl) rfl)
theorem fr_qIm74_X4_take_33_tTx {n : Nat} {I : Nat → Nat → Int32} {A : Nat → Nat → Int32} {J : Nat → Nat → Int64} {t : Bool × Bool} {x1 : Int32} {c k : Nat} (h : (c, k) ∉ [(33, 3), (33, 4), (33, 5), (33, 6), (60, 7)]) : qIm74_X4_take_33_tTx n I A J t x1 c k = I c k := (fr_itep ((fr_pI_X4_takeSign_33_tTx (fr_subp rfl h)).trans (fr_qI11_X4_take_33_tTx (fr_subp rfl h))) (fr_qI11_X4_take_33_tTx (fr_subp rfl h)))
theorem fr_qAm74_X4_take_33_tTx {n : Nat} {I : Nat → Nat → Int32} {A : Nat → Nat → Int32} {J : Nat → Nat → Int64} {t : Bool × Bool} {x1 : Int32} {c : Nat} (h : c ∉ [36, 65, 66]) : qAm74_X4_take_33_tTx n I A J t x1 c = A c := (fr_itec (fr_pA_X4_takeSign_33_tTx (fr_subc rfl h)) rfl)
theorem fr_qIm60_X4_take_33_tTx {n : Nat} {I : Nat → Nat → Int32} {A : Nat → Nat → Int32} {J : Nat → Nat → Int64} {t : Bool × Bool} {x1 : Int32} {c k : Nat} (h : (c, k) ∉ [(33, 3), (33, 4), (33, 5), (33, 6), (60, 7)]) : qIm60_X4_take_33_tTx n I A J t x1 c k = I c k := (fr_itep ((fr_pI_X4_takeUnit_33_tTx (fr_subp rfl h)).trans (fr_qI11_X4_take_33_tTx (fr_subp rfl h))) (fr_qIm74_X4_take_33_tTx (fr_subp rfl h)))
theorem fr_qAm60_X4_take_33_tTx {n : Nat} {I : Nat → Nat → Int32} {A : Nat → Nat → Int32} {J : Nat → Nat → Int64} {t : Bool × Bool} {x1 : Int32} {c : Nat} (h : c ∉ [36, 65, 66]) : qAm60_X4_take_33_tTx n I A J t x1 c = A c := (fr_itec (fr_pA_X4_takeUnit_33_tTx (fr_subc rfl h)) (fr_qAm74_X4_take_33_tTx (fr_subc rfl h)))
theorem fr_qIm47_X4_take_33_tTx {n : Nat} {I : Nat → Nat → Int32} {A : Nat → Nat → Int32} {J : Nat → Nat → Int64} {t : Bool × Bool} {x1 : Int32} {c k : Nat} (h : (c, k) ∉ [(33, 3), (33, 4), (33, 5), (33, 6), (33, 9), (33, 10), (60, 7)]) : qIm47_X4_take_33_tTx n I A J t x1 c k = I c k := (fr_itep ((fr_pI_X4_takeUntil_33 (fr_subp rfl h)).trans (fr_qI11_X4_take_33_tTx (fr_subp rfl h))) (fr_qIm60_X4_take_33_tTx (fr_subp rfl h)))
theorem fr_qAm47_X4_take_33_tTx {n : Nat} {I : Nat → Nat → Int32} {A : Nat → Nat → Int32} {J : Nat → Nat → Int64} {t : Bool × Bool} {x1 : Int32} {c : Nat} (h : c ∉ [36, 65, 66]) : qAm47_X4_take_33_tTx n I A J t x1 c = A c := (fr_itec rfl (fr_qAm60_X4_take_33_tTx (fr_subc rfl h)))
theorem fr_qI39_X4_take_33_tTx {n : Nat} {I : Nat → Nat → Int32} {A : Nat → Nat → Int32} {J : Nat → Nat → Int64} {t : Bool × Bool} {x1 : Int32} {c k : Nat} (h : (c, k) ∉ [(33, 4), (33, 8)]) : qI39_X4_take_33_tTx n I A J t x1 c k = I c k := (fr_up h (List.mem_of_getElem? (i := 1) rfl) (fr_qI11_X4_take_33_tTx (fr_subp rfl h)))
theorem fr_qIm28_X4_take_33_tTx {n : Nat} {I : Nat → Nat → Int32} {A : Nat → Nat → Int32} {J : Nat → Nat → Int64} {t : Bool × Bool} {x1 : Int32} {c k : Nat} (h : (c, k) ∉ [(33, 3), (33, 4), (33, 5), (33, 6), (33, 8), (33, 9), (33, 10), (60, 7)]) : qIm28_X4_take_33_tTx n I A J t x1 c k = I c k := (fr_itep (fr_qI39_X4_take_33_tTx (fr_subp rfl h)) (fr_qIm47_X4_take_33_tTx (fr_subp rfl h)))
theorem fr_qAm28_X4_take_33_tTx {n : Nat} {I : Nat → Nat → Int32} {A : Nat → Nat → Int32} {J : Nat → Nat → Int64} {t : Bool × Bool} {x1 : Int32} {c : Nat} (h : c ∉ [36, 65, 66]) : qAm28_X4_take_33_tTx n I A J t x1 c = A c := (fr_itec rfl (fr_qAm47_X4_take_33_tTx (fr_subc rfl h)))
theorem fr_qIm15_X4_take_33_tTx {n : Nat} {I : Nat → Nat → Int32} {A : Nat → Nat → Int32} {J : Nat → Nat → Int64} {t : Bool × Bool} {x1 : Int32} {c k : Nat} (h : (c, k) ∉ [(33, 3), (33, 4), (33, 5), (33, 6), (33, 7), (33, 8), (33, 9), (33, 10), (60, 7)]) : qIm15_X4_take_33_tTx n I A J t x1 c k = I c k := (fr_itep ((fr_pI_X4_startRule_33 (fr_subp rfl h)).trans (fr_qI11_X4_take_33_tTx (fr_subp rfl h))) (fr_qIm28_X4_take_33_tTx (fr_subp rfl h)))
theorem fr_qAm15_X4_take_33_tTx {n : Nat} {I : Nat → Nat → Int32} {A : Nat → Nat → Int32} {J : Nat → Nat → Int64} {t : Bool × Bool} {x1 : Int32} {c : Nat} (h : c ∉ [36, 65, 66]) : qAm15_X4_take_33_tTx n I A J t x1 c = A c := (fr_itec rfl (fr_qAm28_X4_take_33_tTx (fr_subc rfl h)))
theorem fr_qIm84_X4_take_33_tTx {n : Nat} {I : Nat → Nat → Int32} {A : Nat → Nat → Int32} {J : Nat → Nat → Int64} {t : Bool × Bool} {x1 : Int32} {c k : Nat} (h : (c, k) ∉ [(33, 3), (33, 4), (33, 5), (33, 6), (33, 7), (33, 8), (33, 9), (33, 10), (60, 7), (60, 8)]) : qIm84_X4_take_33_tTx n I A J t x1 c k = I c k := (fr_itep ((fr_pI_X10_addRule_60 (fr_subp rfl h)).trans (fr_qIm15_X4_take_33_tTx (fr_subp rfl h))) (fr_qIm15_X4_take_33_tTx (fr_subp rfl h)))
theorem fr_qAm84_X4_take_33_tTx {n : Nat} {I : Nat → Nat → Int32} {A : Nat → Nat → Int32} {J : Nat → Nat → Int64} {t : Bool × Bool} {x1 : Int32} {c : Nat} (h : c ∉ [36, 61, 62, 63, 64, 65, 66]) : qAm84_X4_take_33_tTx n I A J t x1 c = A c := (fr_itec ((fr_pA_X10_addRule_60 (fr_subc rfl h)).trans (fr_qAm15_X4_take_33_tTx (fr_subc rfl h))) (fr_qAm15_X4_take_33_tTx (fr_subc rfl h)))
theorem fr_pI_X4_take_33_tTx {n : Nat} {I : Nat → Nat → Int32} {A : Nat → Nat → Int32} {J : Nat → Nat → Int64} {t : Bool × Bool} {x1 : Int32} {c k : Nat} (h : (c, k) ∉ [(33, 3), (33, 4), (33, 5), (33, 6), (33, 7), (33, 8), (33, 9), (33, 10), (60, 7), (60, 8)]) : pI_X4_take_33_tTx n I A J t x1 c k = I c k := (fr_qIm84_X4_take_33_tTx (fr_subp rfl h))
theorem fr_pA_X4_take_33_tTx {n : Nat} {I : Nat → Nat → Int32} {A : Nat → Nat → Int32} {J : Nat → Nat → Int64} {t : Bool × Bool} {x1 : Int32} {c : Nat} (h : c ∉ [36, 61, 62, 63, 64, 65, 66]) : pA_X4_take_33_tTx n I A J t x1 c = A c := (fr_qAm84_X4_take_33_tTx (fr_subc rfl h))
theorem fr_qI18_X4_parse_33_32_tFx {n : Nat} {I : Nat → Nat → Int32} {A : Nat → Nat → Int32} {J : Nat → Nat → Int64} {t : Bool × Bool} {x1 : Int32} {c k : Nat} (h : (c, k) ∉ [(33, 4), (34, 1), (34, 2), (37, 7), (37, 8)]) : qI18_X4_parse_33_32_tFx n I A J t x1 c k = I c k := (fr_up h (List.mem_of_getElem? (i := 0) rfl) ((fr_pI_X7_start_34_32 (fr_subp rfl h)).trans (fr_pI_X10_renew_37 (fr_subp rfl h))))
theorem fr_qI23_X4_parse_33_32_tFx {n : Nat} {I : Nat → Nat → Int32} {A : Nat → Nat → Int32} {J : Nat → Nat → Int64} {t : Bool × Bool} {x1 : Int32} {c k : Nat} (h : (c, k) ∉ [(33, 3), (33, 4), (34, 1), (34, 2), (37, 7), (37, 8)]) : qI23_X4_parse_33_32_tFx n I A J t x1 c k = I c k := (fr_up h (List.mem_of_getElem? (i := 0) rfl) (fr_qI18_X4_parse_33_32_tFx (fr_subp rfl h)))
theorem fr_qI28_X4_parse_33_32_tFx {n : Nat} {I : Nat → Nat → Int32} {A : Nat → Nat → Int32} {J : Nat → Nat → Int64} {t : Bool × Bool} {x1 : Int32} {c k : Nat} (h : (c, k) ∉ [(33, 3), (33, 4), (33, 10), (34, 1), (34, 2), (37, 7), (37, 8)]) : qI28_X4_parse_33_32_tFx n I A J t x1 c k = I c k := (fr_up h (List.mem_of_getElem? (i := 2) rfl) (fr_qI23_X4_parse_33_32_tFx (fr_subp rfl h)))
theorem fr_qIm96_X4_parse_33_32_tFx {n : Nat} {I : Nat → Nat → Int32} {A : Nat → Nat → Int32} {J : Nat → Nat → Int64} {t : Bool × Bool} {x1 : Int32} {I39 : Nat → Nat → Int32} {A39 : Nat → Nat → Int32} {v39_3 : Int32} {v39_4 : Int32} {v39_5 : Int32} {c k : Nat} (h : (c, k) ∉ [(33, 3), (33, 4), (33, 5), (33, 6), (33, 7), (33, 8), (33, 9), (33, 10), (34, 2), (34, 3), (34, 4), (34, 5), (37, 7), (37, 8)]) : qIm96_X4_parse_33_32_tFx n I A J t x1 I39 A39 v39_3 v39_4 v39_5 c k = I39 c k := (fr_itep (fr_pI_X7_advance_34_txT (fr_subp rfl h)) ((fr_pI_X4_take_33_tFx (fr_subp rfl h)).trans (fr_pI_X7_advance_34_txT (fr_subp rfl h))))
theorem fr_qAm96_X4_parse_33_32_tFx {n : Nat} {I : Nat → Nat → Int32} {A : Nat → Nat → Int32} {J : Nat → Nat → Int64} {t : Bool × Bool} {x1 : Int32} {I39 : Nat → Nat → Int32} {A39 : Nat → Nat → Int32} {v39_3 : Int32} {v39_4 : Int32} {v39_5 : Int32} {c : Nat} (h : c ∉ [36, 38, 39, 40, 41, 42, 43]) : qAm96_X4_parse_33_32_tFx n I A J t x1 I39 A39 v39_3 v39_4 v39_5 c = A39 c := (fr_itec rfl (fr_pA_X4_take_33_tFx (fr_subc rfl h)))
theorem fr_lp_X4_parse_33_32_tFx_39_c0 {n : Nat} {I : Nat → Nat → Int32} {A : Nat → Nat → Int32} {J : Nat → Nat → Int64} {t : Bool × Bool} {x1 : Int32} {c k : Nat} (h : (c, k) ∉ [(33, 3), (33, 4), (33, 5), (33, 6), (33, 7), (33, 8), (33, 9), (33, 10), (34, 2), (34, 3), (34, 4), (34, 5), (37, 7), (37, 8)]) : ∀ (f : Nat) (I39 : Nat → Nat → Int32) (A39 : Nat → Nat → Int32) (v39_3 : Int32) (v39_4 : Int32) (v39_5 : Int32), (lp_X4_parse_33_32_tFx_39 n I A J t x1 f I39 A39 v39_3 v39_4 v39_5).1 c k = I39 c k := by
  intro f
  induction f with
  | zero => intro _ _ _ _ _; rfl
  | succ f ih =>
    intro I39 A39 v39_3 v39_4 v39_5
    unfold lp_X4_parse_33_32_tFx_39
    split
    · exact rfl
    · split
      · exact rfl
      · exact (ih _ _ _ _ _).trans (fr_qIm96_X4_parse_33_32_tFx (fr_subp rfl h))
theorem fr_lp_X4_parse_33_32_tFx_39_c1 {n : Nat} {I : Nat → Nat → Int32} {A : Nat → Nat → Int32} {J : Nat → Nat → Int64} {t : Bool × Bool} {x1 : Int32} {c : Nat} (h : c ∉ [36, 38, 39, 40, 41, 42, 43]) : ∀ (f : Nat) (I39 : Nat → Nat → Int32) (A39 : Nat → Nat → Int32) (v39_3 : Int32) (v39_4 : Int32) (v39_5 : Int32), (lp_X4_parse_33_32_tFx_39 n I A J t x1 f I39 A39 v39_3 v39_4 v39_5).2.1 c = A39 c := by
  intro f
  induction f with
  | zero => intro _ _ _ _ _; rfl
  | succ f ih =>
    intro I39 A39 v39_3 v39_4 v39_5
    unfold lp_X4_parse_33_32_tFx_39
    split
    · exact rfl
    · split
      · exact rfl
      · exact (ih _ _ _ _ _).trans (fr_qAm96_X4_parse_33_32_tFx (fr_subc rfl h))
theorem fr_qIw39_X4_parse_33_32_tFx {n : Nat} {I : Nat → Nat → Int32} {A : Nat → Nat → Int32} {J : Nat → Nat → Int64} {t : Bool × Bool} {x1 : Int32} {c k : Nat} (h : (c, k) ∉ [(33, 3), (33, 4), (33, 5), (33, 6), (33, 7), (33, 8), (33, 9), (33, 10), (34, 1), (34, 2), (34, 3), (34, 4), (34, 5), (37, 7), (37, 8)]) : qIw39_X4_parse_33_32_tFx n I A J t x1 c k = I c k := ((fr_lp_X4_parse_33_32_tFx_39_c0 (fr_subp rfl h) _ _ _ _ _ _).trans (fr_qI28_X4_parse_33_32_tFx (fr_subp rfl h)))
theorem fr_qAw39_X4_parse_33_32_tFx {n : Nat} {I : Nat → Nat → Int32} {A : Nat → Nat → Int32} {J : Nat → Nat → Int64} {t : Bool × Bool} {x1 : Int32} {c : Nat} (h : c ∉ [36, 38, 39, 40, 41, 42, 43]) : qAw39_X4_parse_33_32_tFx n I A J t x1 c = A c := (fr_lp_X4_parse_33_32_tFx_39_c1 (fr_subc rfl h) _ _ _ _ _ _)
theorem fr_qI135_X4_parse_33_32_tFx {n : Nat} {I : Nat → Nat → Int32} {A : Nat → Nat → Int32} {J : Nat → Nat → Int64} {t : Bool × Bool} {x1 : Int32} {c k : Nat} (h : (c, k) ∉ [(33, 3), (33, 4), (33, 5), (33, 6), (33, 7), (33, 8), (33, 9), (33, 10), (33, 11), (34, 1), (34, 2), (34, 3), (34, 4), (34, 5), (37, 7), (37, 8)]) : qI135_X4_parse_33_32_tFx n I A J t x1 c k = I c k := (fr_up h (List.mem_of_getElem? (i := 8) rfl) (fr_qIw39_X4_parse_33_32_tFx (fr_subp rfl h)))
theorem fr_pI_X4_parse_33_32_tFx {n : Nat} {I : Nat → Nat → Int32} {A : Nat → Nat → Int32} {J : Nat → Nat → Int64} {t : Bool × Bool} {x1 : Int32} {c k : Nat} (h : (c, k) ∉ [(33, 3), (33, 4), (33, 5), (33, 6), (33, 7), (33, 8), (33, 9), (33, 10), (33, 11), (34, 1), (34, 2), (34, 3), (34, 4), (34, 5), (37, 7), (37, 8)]) : pI_X4_parse_33_32_tFx n I A J t x1 c k = I c k := (fr_qI135_X4_parse_33_32_tFx (fr_subp rfl h))
theorem fr_pA_X4_parse_33_32_tFx {n : Nat} {I : Nat → Nat → Int32} {A : Nat → Nat → Int32} {J : Nat → Nat → Int64} {t : Bool × Bool} {x1 : Int32} {c : Nat} (h : c ∉ [36, 38, 39, 40, 41, 42, 43]) : pA_X4_parse_33_32_tFx n I A J t x1 c = A c := (fr_qAw39_X4_parse_33_32_tFx (fr_subc rfl h))
theorem fr_qI18_X4_parse_33_32_tTx {n : Nat} {I : Nat → Nat → Int32} {A : Nat → Nat → Int32} {J : Nat → Nat → Int64} {t : Bool × Bool} {x1 : Int32} {c k : Nat} (h : (c, k) ∉ [(33, 4), (34, 1), (34, 2), (60, 7), (60, 8)]) : qI18_X4_parse_33_32_tTx n I A J t x1 c k = I c k := (fr_up h (List.mem_of_getElem? (i := 0) rfl) ((fr_pI_X7_start_34_32 (fr_subp rfl h)).trans (fr_pI_X10_renew_60 (fr_subp rfl h))))
theorem fr_qI23_X4_parse_33_32_tTx {n : Nat} {I : Nat → Nat → Int32} {A : Nat → Nat → Int32} {J : Nat → Nat → Int64} {t : Bool × Bool} {x1 : Int32} {c k : Nat} (h : (c, k) ∉ [(33, 3), (33, 4), (34, 1), (34, 2), (60, 7), (60, 8)]) : qI23_X4_parse_33_32_tTx n I A J t x1 c k = I c k := (fr_up h (List.mem_of_getElem? (i := 0) rfl) (fr_qI18_X4_parse_33_32_tTx (fr_subp rfl h)))
theorem fr_qI28_X4_parse_33_32_tTx {n : Nat} {I : Nat → Nat → Int32} {A : Nat → Nat → Int32} {J : Nat → Nat → Int64} {t : Bool × Bool} {x1 : Int32} {c k : Nat} (h : (c, k) ∉ [(33, 3), (33, 4), (33, 10), (34, 1), (34, 2), (60, 7), (60, 8)]) : qI28_X4_parse_33_32_tTx n I A J t x1 c k = I c k := (fr_up h (List.mem_of_getElem? (i := 2) rfl) (fr_qI23_X4_parse_33_32_tTx (fr_subp rfl h)))
theorem fr_qIm96_X4_parse_33_32_tTx {n : Nat} {I : Nat → Nat → Int32} {A : Nat → Nat → Int32} {J : Nat → Nat → Int64} {t : Bool × Bool} {x1 : Int32} {I39 : Nat → Nat → Int32} {A39 : Nat → Nat → Int32} {v39_3 : Int32} {v39_4 : Int32} {v39_5 : Int32} {c k : Nat} (h : (c, k) ∉ [(33, 3), (33, 4), (33, 5), (33, 6), (33, 7), (33, 8), (33, 9), (33, 10), (34, 2), (34, 3), (34, 4), (34, 5), (60, 7), (60, 8)]) : qIm96_X4_parse_33_32_tTx n I A J t x1 I39 A39 v39_3 v39_4 v39_5 c k = I39 c k := (fr_itep (fr_pI_X7_advance_34_txT (fr_subp rfl h)) ((fr_pI_X4_take_33_tTx (fr_subp rfl h)).trans (fr_pI_X7_advance_34_txT (fr_subp rfl h))))
theorem fr_qAm96_X4_parse_33_32_tTx {n : Nat} {I : Nat → Nat → Int32} {A : Nat → Nat → Int32} {J : Nat → Nat → Int64} {t : Bool × Bool} {x1 : Int32} {I39 : Nat → Nat → Int32} {A39 : Nat → Nat → Int32} {v39_3 : Int32} {v39_4 : Int32} {v39_5 : Int32} {c : Nat} (h : c ∉ [36, 61, 62, 63, 64, 65, 66]) : qAm96_X4_parse_33_32_tTx n I A J t x1 I39 A39 v39_3 v39_4 v39_5 c = A39 c := (fr_itec rfl (fr_pA_X4_take_33_tTx (fr_subc rfl h)))
theorem fr_lp_X4_parse_33_32_tTx_39_c0 {n : Nat} {I : Nat → Nat → Int32} {A : Nat → Nat → Int32} {J : Nat → Nat → Int64} {t : Bool × Bool} {x1 : Int32} {c k : Nat} (h : (c, k) ∉ [(33, 3), (33, 4), (33, 5), (33, 6), (33, 7), (33, 8), (33, 9), (33, 10), (34, 2), (34, 3), (34, 4), (34, 5), (60, 7), (60, 8)]) : ∀ (f : Nat) (I39 : Nat → Nat → Int32) (A39 : Nat → Nat → Int32) (v39_3 : Int32) (v39_4 : Int32) (v39_5 : Int32), (lp_X4_parse_33_32_tTx_39 n I A J t x1 f I39 A39 v39_3 v39_4 v39_5).1 c k = I39 c k := by
  intro f
  induction f with
  | zero => intro _ _ _ _ _; rfl
  | succ f ih =>
    intro I39 A39 v39_3 v39_4 v39_5
    unfold lp_X4_parse_33_32_tTx_39
    split
    · exact rfl
    · split
      · exact rfl
      · exact (ih _ _ _ _ _).trans (fr_qIm96_X4_parse_33_32_tTx (fr_subp rfl h))
theorem fr_lp_X4_parse_33_32_tTx_39_c1 {n : Nat} {I : Nat → Nat → Int32} {A : Nat → Nat → Int32} {J : Nat → Nat → Int64} {t : Bool × Bool} {x1 : Int32} {c : Nat} (h : c ∉ [36, 61, 62, 63, 64, 65, 66]) : ∀ (f : Nat) (I39 : Nat → Nat → Int32) (A39 : Nat → Nat → Int32) (v39_3 : Int32) (v39_4 : Int32) (v39_5 : Int32), (lp_X4_parse_33_32_tTx_39 n I A J t x1 f I39 A39 v39_3 v39_4 v39_5).2.1 c = A39 c := by
  intro f
  induction f with
  | zero => intro _ _ _ _ _; rfl
  | succ f ih =>
    intro I39 A39 v39_3 v39_4 v39_5
    unfold lp_X4_parse_33_32_tTx_39
    split
    · exact rfl
    · split
      · exact rfl
      · exact (ih _ _ _ _ _).trans (fr_qAm96_X4_parse_33_32_tTx (fr_subc rfl h))
theorem fr_qIw39_X4_parse_33_32_tTx {n : Nat} {I : Nat → Nat → Int32} {A : Nat → Nat → Int32} {J : Nat → Nat → Int64} {t : Bool × Bool} {x1 : Int32} {c k : Nat} (h : (c, k) ∉ [(33, 3), (33, 4), (33, 5), (33, 6), (33, 7), (33, 8), (33, 9), (33, 10), (34, 1), (34, 2), (34, 3), (34, 4), (34, 5), (60, 7), (60, 8)]) : qIw39_X4_parse_33_32_tTx n I A J t x1 c k = I c k := ((fr_lp_X4_parse_33_32_tTx_39_c0 (fr_subp rfl h) _ _ _ _ _ _).trans (fr_qI28_X4_parse_33_32_tTx (fr_subp rfl h)))
theorem fr_qAw39_X4_parse_33_32_tTx {n : Nat} {I : Nat → Nat → Int32} {A : Nat → Nat → Int32} {J : Nat → Nat → Int64} {t : Bool × Bool} {x1 : Int32} {c : Nat} (h : c ∉ [36, 61, 62, 63, 64, 65, 66]) : qAw39_X4_parse_33_32_tTx n I A J t x1 c = A c := (fr_lp_X4_parse_33_32_tTx_39_c1 (fr_subc rfl h) _ _ _ _ _ _)
theorem fr_qI135_X4_parse_33_32_tTx {n : Nat} {I : Nat → Nat → Int32} {A : Nat → Nat → Int32} {J : Nat → Nat → Int64} {t : Bool × Bool} {x1 : Int32} {c k : Nat} (h : (c, k) ∉ [(33, 3), (33, 4), (33, 5), (33, 6), (33, 7), (33, 8), (33, 9), (33, 10), (33, 11), (34, 1), (34, 2), (34, 3), (34, 4), (34, 5), (60, 7), (60, 8)]) : qI135_X4_parse_33_32_tTx n I A J t x1 c k = I c k := (fr_up h (List.mem_of_getElem? (i := 8) rfl) (fr_qIw39_X4_parse_33_32_tTx (fr_subp rfl h)))
theorem fr_pI_X4_parse_33_32_tTx {n : Nat} {I : Nat → Nat → Int32} {A : Nat → Nat → Int32} {J : Nat → Nat → Int64} {t : Bool × Bool} {x1 : Int32} {c k : Nat} (h : (c, k) ∉ [(33, 3), (33, 4), (33, 5), (33, 6), (33, 7), (33, 8), (33, 9), (33, 10), (33, 11), (34, 1), (34, 2), (34, 3), (34, 4), (34, 5), (60, 7), (60, 8)]) : pI_X4_parse_33_32_tTx n I A J t x1 c k = I c k := (fr_qI135_X4_parse_33_32_tTx (fr_subp rfl h))
theorem fr_pA_X4_parse_33_32_tTx {n : Nat} {I : Nat → Nat → Int32} {A : Nat → Nat → Int32} {J : Nat → Nat → Int64} {t : Bool × Bool} {x1 : Int32} {c : Nat} (h : c ∉ [36, 61, 62, 63, 64, 65, 66]) : pA_X4_parse_33_32_tTx n I A J t x1 c = A c := (fr_qAw39_X4_parse_33_32_tTx (fr_subc rfl h))
theorem fr_qA19_X12_put_68 {n : Nat} {I : Nat → Nat → Int32} {A : Nat → Nat → Int32} {J : Nat → Nat → Int64} {t : Bool × Bool} {x1 : Int32} {I3 : Nat → Nat → Int32} {A3 : Nat → Nat → Int32} {v3_2 : Int32} {c : Nat} (h : c ∉ [69]) : qA19_X12_put_68 n I A J t x1 I3 A3 v3_2 c = A3 c := (fr_uc h (List.mem_of_getElem? (i := 0) rfl) rfl)
theorem fr_qI27_X12_put_68 {n : Nat} {I : Nat → Nat → Int32} {A : Nat → Nat → Int32} {J : Nat → Nat → Int64} {t : Bool × Bool} {x1 : Int32} {I3 : Nat → Nat → Int32} {A3 : Nat → Nat → Int32} {v3_2 : Int32} {c k : Nat} (h : (c, k) ∉ [(68, 2)]) : qI27_X12_put_68 n I A J t x1 I3 A3 v3_2 c k = I3 c k := (fr_up h (List.mem_of_getElem? (i := 0) rfl) rfl)
theorem fr_lp_X12_put_68_3_c0 {n : Nat} {I : Nat → Nat → Int32} {A : Nat → Nat → Int32} {J : Nat → Nat → Int64} {t : Bool × Bool} {x1 : Int32} {c k : Nat} (h : (c, k) ∉ [(68, 2)]) : ∀ (f : Nat) (I3 : Nat → Nat → Int32) (A3 : Nat → Nat → Int32) (v3_2 : Int32), (lp_X12_put_68_3 n I A J t x1 f I3 A3 v3_2).1 c k = I3 c k := by
  intro f
  induction f with
  | zero => intro _ _ _; rfl
  | succ f ih =>
    intro I3 A3 v3_2
    unfold lp_X12_put_68_3
    split
    · exact rfl
    · exact (ih _ _ _).trans (fr_qI27_X12_put_68 (fr_subp rfl h))
theorem fr_lp_X12_put_68_3_c1 {n : Nat} {I : Nat → Nat → Int32} {A : Nat → Nat → Int32} {J : Nat → Nat → Int64} {t : Bool × Bool} {x1 : Int32} {c : Nat} (h : c ∉ [69]) : ∀ (f : Nat) (I3 : Nat → Nat → Int32) (A3 : Nat → Nat → Int32) (v3_2 : Int32), (lp_X12_put_68_3 n I A J t x1 f I3 A3 v3_2).2.1 c = A3 c := by
  intro f
  induction f with
  | zero => intro _ _ _; rfl
  | succ f ih =>
    intro I3 A3 v3_2
    unfold lp_X12_put_68_3
    split
    · exact rfl
    · exact (ih _ _ _).trans (fr_qA19_X12_put_68 (fr_subc rfl h))
theorem fr_qIw3_X12_put_68 {n : Nat} {I : Nat → Nat → Int32} {A : Nat → Nat → Int32} {J : Nat → Nat → Int64} {t : Bool × Bool} {x1 : Int32} {c k : Nat} (h : (c, k) ∉ [(68, 2)]) : qIw3_X12_put_68 n I A J t x1 c k = I c k := (fr_lp_X12_put_68_3_c0 (fr_subp rfl h) _ _ _ _)
theorem fr_qAw3_X12_put_68 {n : Nat} {I : Nat → Nat → Int32} {A : Nat → Nat → Int32} {J : Nat → Nat → Int64} {t : Bool × Bool} {x1 : Int32} {c : Nat} (h : c ∉ [69]) : qAw3_X12_put_68 n I A J t x1 c = A c := (fr_lp_X12_put_68_3_c1 (fr_subc rfl h) _ _ _ _)
theorem fr_pI_X12_put_68 {n : Nat} {I : Nat → Nat → Int32} {A : Nat → Nat → Int32} {J : Nat → Nat → Int64} {t : Bool × Bool} {x1 : Int32} {c k : Nat} (h : (c, k) ∉ [(68, 2)]) : pI_X12_put_68 n I A J t x1 c k = I c k := (fr_qIw3_X12_put_68 (fr_subp rfl h))
theorem fr_pA_X12_put_68 {n : Nat} {I : Nat → Nat → Int32} {A : Nat → Nat → Int32} {J : Nat → Nat → Int64} {t : Bool × Bool} {x1 : Int32} {c : Nat} (h : c ∉ [69]) : pA_X12_put_68 n I A J t x1 c = A c := (fr_qAw3_X12_put_68 (fr_subc rfl h))
theorem fr_pI_X12_feed_68 {n : Nat} {I : Nat → Nat → Int32} {A : Nat → Nat → Int32} {J : Nat → Nat → Int64} {t : Bool × Bool} {x1 : Int32} {x2 : Int32} {x3 : Int32} {x4 : Int32} {x5 : Int32} {c k : Nat} (h : (c, k) ∉ [(68, 2)]) : pI_X12_feed_68 n I A J t x1 x2 x3 x4 x5 c k = I c k := (fr_itep ((fr_pI_X12_put_68 (fr_subp rfl h)).trans ((fr_pI_X12_put_68 (fr_subp rfl h)).trans ((fr_pI_X12_put_68 (fr_subp rfl h)).trans ((fr_pI_X12_put_68 (fr_subp rfl h)).trans (fr_pI_X12_put_68 (fr_subp rfl h)))))) rfl)
theorem fr_pA_X12_feed_68 {n : Nat} {I : Nat → Nat → Int32} {A : Nat → Nat → Int32} {J : Nat → Nat → Int64} {t : Bool × Bool} {x1 : Int32} {x2 : Int32} {x3 : Int32} {x4 : Int32} {x5 : Int32} {c : Nat} (h : c ∉ [69]) : pA_X12_feed_68 n I A J t x1 x2 x3 x4 x5 c = A c := (fr_itec ((fr_pA_X12_put_68 (fr_subc rfl h)).trans ((fr_pA_X12_put_68 (fr_subc rfl h)).trans ((fr_pA_X12_put_68 (fr_subc rfl h)).trans ((fr_pA_X12_put_68 (fr_subc rfl h)).trans (fr_pA_X12_put_68 (fr_subc rfl h)))))) rfl)
theorem fr_qI21_X12_back_68 {n : Nat} {I : Nat → Nat → Int32} {A : Nat → Nat → Int32} {J : Nat → Nat → Int64} {t : Bool × Bool} {x1 : Int32} {c k : Nat} (h : (c, k) ∉ [(68, 2)]) : qI21_X12_back_68 n I A J t x1 c k = I c k := (fr_up h (List.mem_of_getElem? (i := 0) rfl) rfl)
theorem fr_pI_X12_back_68 {n : Nat} {I : Nat → Nat → Int32} {A : Nat → Nat → Int32} {J : Nat → Nat → Int64} {t : Bool × Bool} {x1 : Int32} {c k : Nat} (h : (c, k) ∉ [(68, 2)]) : pI_X12_back_68 n I A J t x1 c k = I c k := (fr_itep rfl (fr_itep (fr_qI21_X12_back_68 (fr_subp rfl h)) rfl))
theorem fr_qA9_X12_token_68 {n : Nat} {I : Nat → Nat → Int32} {A : Nat → Nat → Int32} {J : Nat → Nat → Int64} {t : Bool × Bool} {x1 : Int32} {x2 : Int32} {x3 : Int32} {x4 : Int64} {c : Nat} (h : c ∉ [71]) : qA9_X12_token_68 n I A J t x1 x2 x3 x4 c = A c := (fr_uc h (List.mem_of_getElem? (i := 0) rfl) rfl)
theorem fr_qA19_X12_token_68 {n : Nat} {I : Nat → Nat → Int32} {A : Nat → Nat → Int32} {J : Nat → Nat → Int64} {t : Bool × Bool} {x1 : Int32} {x2 : Int32} {x3 : Int32} {x4 : Int64} {c : Nat} (h : c ∉ [71, 72]) : qA19_X12_token_68 n I A J t x1 x2 x3 x4 c = A c := (fr_uc h (List.mem_of_getElem? (i := 1) rfl) (fr_qA9_X12_token_68 (fr_subc rfl h)))
theorem fr_qA29_X12_token_68 {n : Nat} {I : Nat → Nat → Int32} {A : Nat → Nat → Int32} {J : Nat → Nat → Int64} {t : Bool × Bool} {x1 : Int32} {x2 : Int32} {x3 : Int32} {x4 : Int64} {c : Nat} (h : c ∉ [71, 72, 73]) : qA29_X12_token_68 n I A J t x1 x2 x3 x4 c = A c := (fr_uc h (List.mem_of_getElem? (i := 2) rfl) (fr_qA19_X12_token_68 (fr_subc rfl h)))
theorem fr_qJ40_X12_token_68 {n : Nat} {I : Nat → Nat → Int32} {A : Nat → Nat → Int32} {J : Nat → Nat → Int64} {t : Bool × Bool} {x1 : Int32} {x2 : Int32} {x3 : Int32} {x4 : Int64} {c : Nat} (h : c ∉ [74]) : qJ40_X12_token_68 n I A J t x1 x2 x3 x4 c = J c := (fr_uc h (List.mem_of_getElem? (i := 0) rfl) rfl)
theorem fr_qI48_X12_token_68 {n : Nat} {I : Nat → Nat → Int32} {A : Nat → Nat → Int32} {J : Nat → Nat → Int64} {t : Bool × Bool} {x1 : Int32} {x2 : Int32} {x3 : Int32} {x4 : Int64} {c k : Nat} (h : (c, k) ∉ [(68, 10)]) : qI48_X12_token_68 n I A J t x1 x2 x3 x4 c k = I c k := (fr_up h (List.mem_of_getElem? (i := 0) rfl) rfl)
theorem fr_pI_X12_token_68 {n : Nat} {I : Nat → Nat → Int32} {A : Nat → Nat → Int32} {J : Nat → Nat → Int64} {t : Bool × Bool} {x1 : Int32} {x2 : Int32} {x3 : Int32} {x4 : Int64} {c k : Nat} (h : (c, k) ∉ [(68, 10)]) : pI_X12_token_68 n I A J t x1 x2 x3 x4 c k = I c k := (fr_qI48_X12_token_68 (fr_subp rfl h))
theorem fr_pA_X12_token_68 {n : Nat} {I : Nat → Nat → Int32} {A : Nat → Nat → Int32} {J : Nat → Nat → Int64} {t : Bool × Bool} {x1 : Int32} {x2 : Int32} {x3 : Int32} {x4 : Int64} {c : Nat} (h : c ∉ [71, 72, 73]) : pA_X12_token_68 n I A J t x1 x2 x3 x4 c = A c := (fr_qA29_X12_token_68 (fr_subc rfl h))
theorem fr_pJ_X12_token_68 {n : Nat} {I : Nat → Nat → Int32} {A : Nat → Nat → Int32} {J : Nat → Nat → Int64} {t : Bool × Bool} {x1 : Int32} {x2 : Int32} {x3 : Int32} {x4 : Int64} {c : Nat} (h : c ∉ [74]) : pJ_X12_token_68 n I A J t x1 x2 x3 x4 c = J c := (fr_qJ40_X12_token_68 (fr_subc rfl h))
theorem fr_pI_X12_sign_68 {n : Nat} {I : Nat → Nat → Int32} {A : Nat → Nat → Int32} {J : Nat → Nat → Int64} {t : Bool × Bool} {x1 : Int32} {x2 : Int32} {x3 : Int32} {c k : Nat} (h : (c, k) ∉ [(68, 10)]) : pI_X12_sign_68 n I A J t x1 x2 x3 c k = I c k := (fr_pI_X12_token_68 (fr_subp rfl h))
theorem fr_pA_X12_sign_68 {n : Nat} {I : Nat → Nat → Int32} {A : Nat → Nat → Int32} {J : Nat → Nat → Int64} {t : Bool × Bool} {x1 : Int32} {x2 : Int32} {x3 : Int32} {c : Nat} (h : c ∉ [71, 72, 73]) : pA_X12_sign_68 n I A J t x1 x2 x3 c = A c := (fr_pA_X12_token_68 (fr_subc rfl h))
theorem fr_pJ_X12_sign_68 {n : Nat} {I : Nat → Nat → Int32} {A : Nat → Nat → Int32} {J : Nat → Nat → Int64} {t : Bool × Bool} {x1 : Int32} {x2 : Int32} {x3 : Int32} {c : Nat} (h : c ∉ [74]) : pJ_X12_sign_68 n I A J t x1 x2 x3 c = J c := (fr_pJ_X12_token_68 (fr_subc rfl h))
theorem fr_qI10_X12_fail_68 {n : Nat} {I : Nat → Nat → Int32} {A : Nat → Nat → Int32} {J : Nat → Nat → Int64} {t : Bool × Bool} {x1 : Int32} {c k : Nat} (h : (c, k) ∉ [(68, 13)]) : qI10_X12_fail_68 n I A J t x1 c k = I c k := (fr_up h (List.mem_of_getElem? (i := 0) rfl) rfl)
theorem fr_qI23_X12_fail_68 {n : Nat} {I : Nat → Nat → Int32} {A : Nat → Nat → Int32} {J : Nat → Nat → Int64} {t : Bool × Bool} {x1 : Int32} {c k : Nat} (h : (c, k) ∉ [(68, 13), (68, 14)]) : qI23_X12_fail_68 n I A J t x1 c k = I c k := (fr_up h (List.mem_of_getElem? (i := 1) rfl) (fr_qI10_X12_fail_68 (fr_subp rfl h)))
theorem fr_pI_X12_fail_68 {n : Nat} {I : Nat → Nat → Int32} {A : Nat → Nat → Int32} {J : Nat → Nat → Int64} {t : Bool × Bool} {x1 : Int32} {c k : Nat} (h : (c, k) ∉ [(68, 13), (68, 14)]) : pI_X12_fail_68 n I A J t x1 c k = I c k := (fr_itep (fr_qI23_X12_fail_68 (fr_subp rfl h)) rfl)
theorem fr_qI48_X12_wrong_68 {n : Nat} {I : Nat → Nat → Int32} {A : Nat → Nat → Int32} {J : Nat → Nat → Int64} {t : Bool × Bool} {x1 : Int32} {x2 : Int32} {c k : Nat} (h : (c, k) ∉ [(68, 15)]) : qI48_X12_wrong_68 n I A J t x1 x2 c k = I c k := (fr_up h (List.mem_of_getElem? (i := 0) rfl) rfl)
theorem fr_qI53_X12_wrong_68 {n : Nat} {I : Nat → Nat → Int32} {A : Nat → Nat → Int32} {J : Nat → Nat → Int64} {t : Bool × Bool} {x1 : Int32} {x2 : Int32} {c k : Nat} (h : (c, k) ∉ [(68, 15), (68, 16)]) : qI53_X12_wrong_68 n I A J t x1 x2 c k = I c k := (fr_up h (List.mem_of_getElem? (i := 1) rfl) (fr_qI48_X12_wrong_68 (fr_subp rfl h)))
theorem fr_pI_X12_wrong_68 {n : Nat} {I : Nat → Nat → Int32} {A : Nat → Nat → Int32} {J : Nat → Nat → Int64} {t : Bool × Bool} {x1 : Int32} {x2 : Int32} {c k : Nat} (h : (c, k) ∉ [(68, 15), (68, 16)]) : pI_X12_wrong_68 n I A J t x1 x2 c k = I c k := (fr_itep rfl (fr_itep (fr_qI53_X12_wrong_68 (fr_subp rfl h)) (fr_itep rfl (fr_itep (fr_itep (fr_qI53_X12_wrong_68 (fr_subp rfl h)) rfl) (fr_qI53_X12_wrong_68 (fr_subp rfl h))))))
theorem fr_qI25_X12_next_68 {n : Nat} {I : Nat → Nat → Int32} {A : Nat → Nat → Int32} {J : Nat → Nat → Int64} {t : Bool × Bool} {c k : Nat} (h : (c, k) ∉ [(68, 11)]) : qI25_X12_next_68 n I A J t c k = I c k := (fr_up h (List.mem_of_getElem? (i := 0) rfl) rfl)
theorem fr_qIm7_X12_next_68 {n : Nat} {I : Nat → Nat → Int32} {A : Nat → Nat → Int32} {J : Nat → Nat → Int64} {t : Bool × Bool} {c k : Nat} (h : (c, k) ∉ [(68, 11), (68, 13), (68, 14)]) : qIm7_X12_next_68 n I A J t c k = I c k := (fr_itep (fr_pI_X12_fail_68 (fr_subp rfl h)) (fr_qI25_X12_next_68 (fr_subp rfl h)))
theorem fr_pI_X12_next_68 {n : Nat} {I : Nat → Nat → Int32} {A : Nat → Nat → Int32} {J : Nat → Nat → Int64} {t : Bool × Bool} {c k : Nat} (h : (c, k) ∉ [(68, 11), (68, 13), (68, 14)]) : pI_X12_next_68 n I A J t c k = I c k := (fr_qIm7_X12_next_68 (fr_subp rfl h))
theorem fr_qIm5_X12_must_68 {n : Nat} {I : Nat → Nat → Int32} {A : Nat → Nat → Int32} {J : Nat → Nat → Int64} {t : Bool × Bool} {x1 : Int32} {c k : Nat} (h : (c, k) ∉ [(68, 11), (68, 13), (68, 14)]) : qIm5_X12_must_68 n I A J t x1 c k = I c k := (fr_itep (fr_pI_X12_fail_68 (fr_subp rfl h)) (fr_pI_X12_next_68 (fr_subp rfl h)))
theorem fr_pI_X12_must_68 {n : Nat} {I : Nat → Nat → Int32} {A : Nat → Nat → Int32} {J : Nat → Nat → Int64} {t : Bool × Bool} {x1 : Int32} {c k : Nat} (h : (c, k) ∉ [(68, 11), (68, 13), (68, 14)]) : pI_X12_must_68 n I A J t x1 c k = I c k := (fr_qIm5_X12_must_68 (fr_subp rfl h))
theorem fr_qA9_X12_emit_68 {n : Nat} {I : Nat → Nat → Int32} {A : Nat → Nat → Int32} {J : Nat → Nat → Int64} {t : Bool × Bool} {x1 : Int32} {x2 : Int32} {c : Nat} (h : c ∉ [86]) : qA9_X12_emit_68 n I A J t x1 x2 c = A c := (fr_uc h (List.mem_of_getElem? (i := 0) rfl) rfl)
theorem fr_qA19_X12_emit_68 {n : Nat} {I : Nat → Nat → Int32} {A : Nat → Nat → Int32} {J : Nat → Nat → Int64} {t : Bool × Bool} {x1 : Int32} {x2 : Int32} {c : Nat} (h : c ∉ [86, 87]) : qA19_X12_emit_68 n I A J t x1 x2 c = A c := (fr_uc h (List.mem_of_getElem? (i := 1) rfl) (fr_qA9_X12_emit_68 (fr_subc rfl h)))
theorem fr_qI27_X12_emit_68 {n : Nat} {I : Nat → Nat → Int32} {A : Nat → Nat → Int32} {J : Nat → Nat → Int64} {t : Bool × Bool} {x1 : Int32} {x2 : Int32} {c k : Nat} (h : (c, k) ∉ [(68, 30)]) : qI27_X12_emit_68 n I A J t x1 x2 c k = I c k := (fr_up h (List.mem_of_getElem? (i := 0) rfl) rfl)
theorem fr_pI_X12_emit_68 {n : Nat} {I : Nat → Nat → Int32} {A : Nat → Nat → Int32} {J : Nat → Nat → Int64} {t : Bool × Bool} {x1 : Int32} {x2 : Int32} {c k : Nat} (h : (c, k) ∉ [(68, 30)]) : pI_X12_emit_68 n I A J t x1 x2 c k = I c k := (fr_qI27_X12_emit_68 (fr_subp rfl h))
theorem fr_pA_X12_emit_68 {n : Nat} {I : Nat → Nat → Int32} {A : Nat → Nat → Int32} {J : Nat → Nat → Int64} {t : Bool × Bool} {x1 : Int32} {x2 : Int32} {c : Nat} (h : c ∉ [86, 87]) : pA_X12_emit_68 n I A J t x1 x2 c = A c := (fr_qA19_X12_emit_68 (fr_subc rfl h))
theorem fr_qI50_X12_comesOut_68 {n : Nat} {I : Nat → Nat → Int32} {A : Nat → Nat → Int32} {J : Nat → Nat → Int64} {t : Bool × Bool} {x1 : Int32} {I0 : Nat → Nat → Int32} {A0 : Nat → Nat → Int32} {c k : Nat} (h : (c, k) ∉ [(68, 34)]) : qI50_X12_comesOut_68 n I A J t x1 I0 A0 c k = I0 c k := (fr_up h (List.mem_of_getElem? (i := 0) rfl) rfl)
theorem fr_lp_X12_comesOut_68_0_c0 {n : Nat} {I : Nat → Nat → Int32} {A : Nat → Nat → Int32} {J : Nat → Nat → Int64} {t : Bool × Bool} {x1 : Int32} {c k : Nat} (h : (c, k) ∉ [(68, 30), (68, 34)]) : ∀ (f : Nat) (I0 : Nat → Nat → Int32) (A0 : Nat → Nat → Int32), (lp_X12_comesOut_68_0 n I A J t x1 f I0 A0).1 c k = I0 c k := by
  intro f
  induction f with
  | zero => intro _ _; rfl
  | succ f ih =>
    intro I0 A0
    unfold lp_X12_comesOut_68_0
    split
    · exact rfl
    · split
      · exact rfl
      · split
        · exact (ih _ _).trans ((fr_pI_X12_emit_68 (fr_subp rfl h)).trans (fr_qI50_X12_comesOut_68 (fr_subp rfl h)))
        · split
          · exact (ih _ _).trans ((fr_pI_X12_emit_68 (fr_subp rfl h)).trans (fr_qI50_X12_comesOut_68 (fr_subp rfl h)))
          · exact rfl
theorem fr_lp_X12_comesOut_68_0_c1 {n : Nat} {I : Nat → Nat → Int32} {A : Nat → Nat → Int32} {J : Nat → Nat → Int64} {t : Bool × Bool} {x1 : Int32} {c : Nat} (h : c ∉ [86, 87]) : ∀ (f : Nat) (I0 : Nat → Nat → Int32) (A0 : Nat → Nat → Int32), (lp_X12_comesOut_68_0 n I A J t x1 f I0 A0).2 c = A0 c := by
  intro f
  induction f with
  | zero => intro _ _; rfl
  | succ f ih =>
    intro I0 A0
    unfold lp_X12_comesOut_68_0
    split
    · exact rfl
    · split
      · exact rfl
      · split
        · exact (ih _ _).trans (fr_pA_X12_emit_68 (fr_subc rfl h))
        · split
          · exact (ih _ _).trans (fr_pA_X12_emit_68 (fr_subc rfl h))
          · exact rfl
theorem fr_qIw0_X12_comesOut_68 {n : Nat} {I : Nat → Nat → Int32} {A : Nat → Nat → Int32} {J : Nat → Nat → Int64} {t : Bool × Bool} {x1 : Int32} {c k : Nat} (h : (c, k) ∉ [(68, 30), (68, 34)]) : qIw0_X12_comesOut_68 n I A J t x1 c k = I c k := (fr_lp_X12_comesOut_68_0_c0 (fr_subp rfl h) _ _ _)
theorem fr_qAw0_X12_comesOut_68 {n : Nat} {I : Nat → Nat → Int32} {A : Nat → Nat → Int32} {J : Nat → Nat → Int64} {t : Bool × Bool} {x1 : Int32} {c : Nat} (h : c ∉ [86, 87]) : qAw0_X12_comesOut_68 n I A J t x1 c = A c := (fr_lp_X12_comesOut_68_0_c1 (fr_subc rfl h) _ _ _)
theorem fr_pI_X12_comesOut_68 {n : Nat} {I : Nat → Nat → Int32} {A : Nat → Nat → Int32} {J : Nat → Nat → Int64} {t : Bool × Bool} {x1 : Int32} {c k : Nat} (h : (c, k) ∉ [(68, 30), (68, 34)]) : pI_X12_comesOut_68 n I A J t x1 c k = I c k := (fr_qIw0_X12_comesOut_68 (fr_subp rfl h))
theorem fr_pA_X12_comesOut_68 {n : Nat} {I : Nat → Nat → Int32} {A : Nat → Nat → Int32} {J : Nat → Nat → Int64} {t : Bool × Bool} {x1 : Int32} {c : Nat} (h : c ∉ [86, 87]) : pA_X12_comesOut_68 n I A J t x1 c = A c := (fr_qAw0_X12_comesOut_68 (fr_subc rfl h))
theorem fr_qA99_X12_ground_68 {n : Nat} {I : Nat → Nat → Int32} {A : Nat → Nat → Int32} {J : Nat → Nat → Int64} {t : Bool × Bool} {x1 : Int32} {x2 : Int32} {x3 : Int32} {c : Nat} (h : c ∉ [89]) : qA99_X12_ground_68 n I A J t x1 x2 x3 c = A c := (fr_uc h (List.mem_of_getElem? (i := 0) rfl) rfl)
theorem fr_qA107_X12_ground_68 {n : Nat} {I : Nat → Nat → Int32} {A : Nat → Nat → Int32} {J : Nat → Nat → Int64} {t : Bool × Bool} {x1 : Int32} {x2 : Int32} {x3 : Int32} {c : Nat} (h : c ∉ [89, 90]) : qA107_X12_ground_68 n I A J t x1 x2 x3 c = A c := (fr_uc h (List.mem_of_getElem? (i := 1) rfl) (fr_qA99_X12_ground_68 (fr_subc rfl h)))
theorem fr_qI147_X12_ground_68 {n : Nat} {I : Nat → Nat → Int32} {A : Nat → Nat → Int32} {J : Nat → Nat → Int64} {t : Bool × Bool} {x1 : Int32} {x2 : Int32} {x3 : Int32} {c k : Nat} (h : (c, k) ∉ [(68, 36)]) : qI147_X12_ground_68 n I A J t x1 x2 x3 c k = I c k := (fr_up h (List.mem_of_getElem? (i := 0) rfl) rfl)
theorem fr_qA99_2_X12_ground_68 {n : Nat} {I : Nat → Nat → Int32} {A : Nat → Nat → Int32} {J : Nat → Nat → Int64} {t : Bool × Bool} {x1 : Int32} {x2 : Int32} {x3 : Int32} {c : Nat} (h : c ∉ [89]) : qA99_2_X12_ground_68 n I A J t x1 x2 x3 c = A c := (fr_uc h (List.mem_of_getElem? (i := 0) rfl) rfl)
theorem fr_qA107_3_X12_ground_68 {n : Nat} {I : Nat → Nat → Int32} {A : Nat → Nat → Int32} {J : Nat → Nat → Int64} {t : Bool × Bool} {x1 : Int32} {x2 : Int32} {x3 : Int32} {c : Nat} (h : c ∉ [89, 90]) : qA107_3_X12_ground_68 n I A J t x1 x2 x3 c = A c := (fr_uc h (List.mem_of_getElem? (i := 1) rfl) (fr_qA99_2_X12_ground_68 (fr_subc rfl h)))
theorem fr_qA122_X12_ground_68 {n : Nat} {I : Nat → Nat → Int32} {A : Nat → Nat → Int32} {J : Nat → Nat → Int64} {t : Bool × Bool} {x1 : Int32} {x2 : Int32} {x3 : Int32} {c : Nat} (h : c ∉ [89, 90, 91]) : qA122_X12_ground_68 n I A J t x1 x2 x3 c = A c := (fr_uc h (List.mem_of_getElem? (i := 2) rfl) (fr_qA107_3_X12_ground_68 (fr_subc rfl h)))
theorem fr_qI130_X12_ground_68 {n : Nat} {I : Nat → Nat → Int32} {A : Nat → Nat → Int32} {J : Nat → Nat → Int64} {t : Bool × Bool} {x1 : Int32} {x2 : Int32} {x3 : Int32} {c k : Nat} (h : (c, k) ∉ [(68, 35)]) : qI130_X12_ground_68 n I A J t x1 x2 x3 c k = I c k := (fr_up h (List.mem_of_getElem? (i := 0) rfl) rfl)
theorem fr_pI_X12_ground_68 {n : Nat} {I : Nat → Nat → Int32} {A : Nat → Nat → Int32} {J : Nat → Nat → Int64} {t : Bool × Bool} {x1 : Int32} {x2 : Int32} {x3 : Int32} {c k : Nat} (h : (c, k) ∉ [(68, 35), (68, 36)]) : pI_X12_ground_68 n I A J t x1 x2 x3 c k = I c k := (fr_itep rfl (fr_itep rfl (fr_itep rfl (fr_itep rfl (fr_itep rfl (fr_itep (fr_itep (fr_itep rfl (fr_qI147_X12_ground_68 (fr_subp rfl h))) (fr_itep rfl (fr_qI130_X12_ground_68 (fr_subp rfl h)))) rfl))))))
theorem fr_pA_X12_ground_68 {n : Nat} {I : Nat → Nat → Int32} {A : Nat → Nat → Int32} {J : Nat → Nat → Int64} {t : Bool × Bool} {x1 : Int32} {x2 : Int32} {x3 : Int32} {c : Nat} (h : c ∉ [89, 90, 91]) : pA_X12_ground_68 n I A J t x1 x2 x3 c = A c := (fr_itec rfl (fr_itec rfl (fr_itec rfl (fr_itec rfl (fr_itec rfl (fr_itec (fr_itec (fr_itec rfl (fr_qA107_X12_ground_68 (fr_subc rfl h))) (fr_itec rfl (fr_qA122_X12_ground_68 (fr_subc rfl h)))) rfl))))))
theorem fr_qA39_X12_mast_68 {n : Nat} {I : Nat → Nat → Int32} {A : Nat → Nat → Int32} {J : Nat → Nat → Int64} {t : Bool × Bool} {x1 : Int32} {x2 : Int32} {c : Nat} (h : c ∉ [92]) : qA39_X12_mast_68 n I A J t x1 x2 c = A c := (fr_uc h (List.mem_of_getElem? (i := 0) rfl) rfl)
theorem fr_qA49_X12_mast_68 {n : Nat} {I : Nat → Nat → Int32} {A : Nat → Nat → Int32} {J : Nat → Nat → Int64} {t : Bool × Bool} {x1 : Int32} {x2 : Int32} {c : Nat} (h : c ∉ [92, 93]) : qA49_X12_mast_68 n I A J t x1 x2 c = A c := (fr_uc h (List.mem_of_getElem? (i := 1) rfl) (fr_qA39_X12_mast_68 (fr_subc rfl h)))
theorem fr_qI57_X12_mast_68 {n : Nat} {I : Nat → Nat → Int32} {A : Nat → Nat → Int32} {J : Nat → Nat → Int64} {t : Bool × Bool} {x1 : Int32} {x2 : Int32} {c k : Nat} (h : (c, k) ∉ [(68, 40)]) : qI57_X12_mast_68 n I A J t x1 x2 c k = I c k := (fr_up h (List.mem_of_getElem? (i := 0) rfl) rfl)
theorem fr_pI_X12_mast_68 {n : Nat} {I : Nat → Nat → Int32} {A : Nat → Nat → Int32} {J : Nat → Nat → Int64} {t : Bool × Bool} {x1 : Int32} {x2 : Int32} {c k : Nat} (h : (c, k) ∉ [(68, 40)]) : pI_X12_mast_68 n I A J t x1 x2 c k = I c k := (fr_itep rfl (fr_itep rfl (fr_itep rfl (fr_itep (fr_qI57_X12_mast_68 (fr_subp rfl h)) rfl))))
theorem fr_pA_X12_mast_68 {n : Nat} {I : Nat → Nat → Int32} {A : Nat → Nat → Int32} {J : Nat → Nat → Int64} {t : Bool × Bool} {x1 : Int32} {x2 : Int32} {c : Nat} (h : c ∉ [92, 93]) : pA_X12_mast_68 n I A J t x1 x2 c = A c := (fr_itec rfl (fr_itec rfl (fr_itec rfl (fr_itec (fr_qA49_X12_mast_68 (fr_subc rfl h)) rfl))))
theorem fr_qA43_X12_programme_68 {n : Nat} {I : Nat → Nat → Int32} {A : Nat → Nat → Int32} {J : Nat → Nat → Int64} {t : Bool × Bool} {x1 : Int32} {x2 : Int32} {x3 : Int32} {c : Nat} (h : c ∉ [94]) : qA43_X12_programme_68 n I A J t x1 x2 x3 c = A c := (fr_uc h (List.mem_of_getElem? (i := 0) rfl) rfl)
theorem fr_qA53_X12_programme_68 {n : Nat} {I : Nat → Nat → Int32} {A : Nat → Nat → Int32} {J : Nat → Nat → Int64} {t : Bool × Bool} {x1 : Int32} {x2 : Int32} {x3 : Int32} {c : Nat} (h : c ∉ [94, 95]) : qA53_X12_programme_68 n I A J t x1 x2 x3 c = A c := (fr_uc h (List.mem_of_getElem? (i := 1) rfl) (fr_qA43_X12_programme_68 (fr_subc rfl h)))
theorem fr_qA63_X12_programme_68 {n : Nat} {I : Nat → Nat → Int32} {A : Nat → Nat → Int32} {J : Nat → Nat → Int64} {t : Bool × Bool} {x1 : Int32} {x2 : Int32} {x3 : Int32} {c : Nat} (h : c ∉ [94, 95, 96]) : qA63_X12_programme_68 n I A J t x1 x2 x3 c = A c := (fr_uc h (List.mem_of_getElem? (i := 2) rfl) (fr_qA53_X12_programme_68 (fr_subc rfl h)))
theorem fr_qI71_X12_programme_68 {n : Nat} {I : Nat → Nat → Int32} {A : Nat → Nat → Int32} {J : Nat → Nat → Int64} {t : Bool × Bool} {x1 : Int32} {x2 : Int32} {x3 : Int32} {c k : Nat} (h : (c, k) ∉ [(68, 43)]) : qI71_X12_programme_68 n I A J t x1 x2 x3 c k = I c k := (fr_up h (List.mem_of_getElem? (i := 0) rfl) rfl)
theorem fr_pI_X12_programme_68 {n : Nat} {I : Nat → Nat → Int32} {A : Nat → Nat → Int32} {J : Nat → Nat → Int64} {t : Bool × Bool} {x1 : Int32} {x2 : Int32} {x3 : Int32} {c k : Nat} (h : (c, k) ∉ [(68, 43)]) : pI_X12_programme_68 n I A J t x1 x2 x3 c k = I c k := (fr_itep rfl (fr_itep rfl (fr_itep rfl (fr_itep rfl (fr_itep (fr_qI71_X12_programme_68 (fr_subp rfl h)) rfl)))))
theorem fr_pA_X12_programme_68 {n : Nat} {I : Nat → Nat → Int32} {A : Nat → Nat → Int32} {J : Nat → Nat → Int64} {t : Bool × Bool} {x1 : Int32} {x2 : Int32} {x3 : Int32} {c : Nat} (h : c ∉ [94, 95, 96]) : pA_X12_programme_68 n I A J t x1 x2 x3 c = A c := (fr_itec rfl (fr_itec rfl (fr_itec rfl (fr_itec rfl (fr_itec (fr_qA63_X12_programme_68 (fr_subc rfl h)) rfl)))))
theorem fr_qA29_X12_sheet_68 {n : Nat} {I : Nat → Nat → Int32} {A : Nat → Nat → Int32} {J : Nat → Nat → Int64} {t : Bool × Bool} {x1 : Int32} {x2 : Int32} {c : Nat} (h : c ∉ [97]) : qA29_X12_sheet_68 n I A J t x1 x2 c = A c := (fr_uc h (List.mem_of_getElem? (i := 0) rfl) rfl)
theorem fr_qA51_X12_sheet_68 {n : Nat} {I : Nat → Nat → Int32} {A : Nat → Nat → Int32} {J : Nat → Nat → Int64} {t : Bool × Bool} {x1 : Int32} {x2 : Int32} {A32 : Nat → Nat → Int32} {v32_3 : Int32} {c : Nat} (h : c ∉ [98]) : qA51_X12_sheet_68 n I A J t x1 x2 A32 v32_3 c = A32 c := (fr_uc h (List.mem_of_getElem? (i := 0) rfl) rfl)
theorem fr_lp_X12_sheet_68_32_c0 {n : Nat} {I : Nat → Nat → Int32} {A : Nat → Nat → Int32} {J : Nat → Nat → Int64} {t : Bool × Bool} {x1 : Int32} {x2 : Int32} {c : Nat} (h : c ∉ [98]) : ∀ (f : Nat) (A32 : Nat → Nat → Int32) (v32_3 : Int32), (lp_X12_sheet_68_32 n I A J t x1 x2 f A32 v32_3).1 c = A32 c := by
  intro f
  induction f with
  | zero => intro _ _; rfl
  | succ f ih =>
    intro A32 v32_3
    unfold lp_X12_sheet_68_32
    split
    · exact rfl
    · exact (ih _ _).trans (fr_qA51_X12_sheet_68 (fr_subc rfl h))
theorem fr_qAw32_X12_sheet_68 {n : Nat} {I : Nat → Nat → Int32} {A : Nat → Nat → Int32} {J : Nat → Nat → Int64} {t : Bool × Bool} {x1 : Int32} {x2 : Int32} {c : Nat} (h : c ∉ [97, 98]) : qAw32_X12_sheet_68 n I A J t x1 x2 c = A c := ((fr_lp_X12_sheet_68_32_c0 (fr_subc rfl h) _ _ _).trans (fr_qA29_X12_sheet_68 (fr_subc rfl h)))
theorem fr_pA_X12_sheet_68 {n : Nat} {I : Nat → Nat → Int32} {A : Nat → Nat → Int32} {J : Nat → Nat → Int64} {t : Bool × Bool} {x1 : Int32} {x2 : Int32} {c : Nat} (h : c ∉ [97, 98]) : pA_X12_sheet_68 n I A J t x1 x2 c = A c := (fr_itec rfl (fr_itec rfl (fr_itec rfl (fr_itec (fr_qAw32_X12_sheet_68 (fr_subc rfl h)) rfl))))
theorem fr_qA49_X12_cell_68 {n : Nat} {I : Nat → Nat → Int32} {A : Nat → Nat → Int32} {J : Nat → Nat → Int64} {t : Bool × Bool} {x1 : Int32} {x2 : Int32} {x3 : Int32} {c : Nat} (h : c ∉ [98]) : qA49_X12_cell_68 n I A J t x1 x2 x3 c = A c := (fr_uc h (List.mem_of_getElem? (i := 0) rfl) rfl)
theorem fr_pA_X12_cell_68 {n : Nat} {I : Nat → Nat → Int32} {A : Nat → Nat → Int32} {J : Nat → Nat → Int64} {t : Bool × Bool} {x1 : Int32} {x2 : Int32} {x3 : Int32} {c : Nat} (h : c ∉ [98]) : pA_X12_cell_68 n I A J t x1 x2 x3 c = A c := (fr_itec rfl (fr_itec rfl (fr_itec rfl (fr_itec rfl (fr_itec rfl (fr_itec (fr_qA49_X12_cell_68 (fr_subc rfl h)) rfl))))))
theorem fr_qI19_X12_clock_68 {n : Nat} {I : Nat → Nat → Int32} {A : Nat → Nat → Int32} {J : Nat → Nat → Int64} {t : Bool × Bool} {x1 : Int32} {c k : Nat} (h : (c, k) ∉ [(68, 49)]) : qI19_X12_clock_68 n I A J t x1 c k = I c k := (fr_up h (List.mem_of_getElem? (i := 0) rfl) rfl)
theorem fr_pI_X12_clock_68 {n : Nat} {I : Nat → Nat → Int32} {A : Nat → Nat → Int32} {J : Nat → Nat → Int64} {t : Bool × Bool} {x1 : Int32} {c k : Nat} (h : (c, k) ∉ [(68, 49)]) : pI_X12_clock_68 n I A J t x1 c k = I c k := (fr_itep rfl (fr_itep rfl (fr_qI19_X12_clock_68 (fr_subp rfl h))))
theorem fr_qA66_X12_report_68 {n : Nat} {I : Nat → Nat → Int32} {A : Nat → Nat → Int32} {J : Nat → Nat → Int64} {t : Bool × Bool} {x1 : Int32} {x2 : Int32} {x3 : Int32} {x4 : Int32} {x5 : Int32} {c : Nat} (h : c ∉ [99]) : qA66_X12_report_68 n I A J t x1 x2 x3 x4 x5 c = A c := (fr_uc h (List.mem_of_getElem? (i := 0) rfl) rfl)
theorem fr_qA79_X12_report_68 {n : Nat} {I : Nat → Nat → Int32} {A : Nat → Nat → Int32} {J : Nat → Nat → Int64} {t : Bool × Bool} {x1 : Int32} {x2 : Int32} {x3 : Int32} {x4 : Int32} {x5 : Int32} {c : Nat} (h : c ∉ [99, 100]) : qA79_X12_report_68 n I A J t x1 x2 x3 x4 x5 c = A c := (fr_uc h (List.mem_of_getElem? (i := 1) rfl) (fr_qA66_X12_report_68 (fr_subc rfl h)))
theorem fr_qA89_X12_report_68 {n : Nat} {I : Nat → Nat → Int32} {A : Nat → Nat → Int32} {J : Nat → Nat → Int64} {t : Bool × Bool} {x1 : Int32} {x2 : Int32} {x3 : Int32} {x4 : Int32} {x5 : Int32} {c : Nat} (h : c ∉ [99, 100, 101]) : qA89_X12_report_68 n I A J t x1 x2 x3 x4 x5 c = A c := (fr_uc h (List.mem_of_getElem? (i := 2) rfl) (fr_qA79_X12_report_68 (fr_subc rfl h)))
theorem fr_qA99_X12_report_68 {n : Nat} {I : Nat → Nat → Int32} {A : Nat → Nat → Int32} {J : Nat → Nat → Int64} {t : Bool × Bool} {x1 : Int32} {x2 : Int32} {x3 : Int32} {x4 : Int32} {x5 : Int32} {c : Nat} (h : c ∉ [99, 100, 101, 102]) : qA99_X12_report_68 n I A J t x1 x2 x3 x4 x5 c = A c := (fr_uc h (List.mem_of_getElem? (i := 3) rfl) (fr_qA89_X12_report_68 (fr_subc rfl h)))
theorem fr_qA109_X12_report_68 {n : Nat} {I : Nat → Nat → Int32} {A : Nat → Nat → Int32} {J : Nat → Nat → Int64} {t : Bool × Bool} {x1 : Int32} {x2 : Int32} {x3 : Int32} {x4 : Int32} {x5 : Int32} {c : Nat} (h : c ∉ [99, 100, 101, 102, 103]) : qA109_X12_report_68 n I A J t x1 x2 x3 x4 x5 c = A c := (fr_uc h (List.mem_of_getElem? (i := 4) rfl) (fr_qA99_X12_report_68 (fr_subc rfl h)))
theorem fr_qA120_X12_report_68 {n : Nat} {I : Nat → Nat → Int32} {A : Nat → Nat → Int32} {J : Nat → Nat → Int64} {t : Bool × Bool} {x1 : Int32} {x2 : Int32} {x3 : Int32} {x4 : Int32} {x5 : Int32} {c : Nat} (h : c ∉ [99, 100, 101, 102, 103, 104]) : qA120_X12_report_68 n I A J t x1 x2 x3 x4 x5 c = A c := (fr_uc h (List.mem_of_getElem? (i := 5) rfl) (fr_qA109_X12_report_68 (fr_subc rfl h)))
theorem fr_qA131_X12_report_68 {n : Nat} {I : Nat → Nat → Int32} {A : Nat → Nat → Int32} {J : Nat → Nat → Int64} {t : Bool × Bool} {x1 : Int32} {x2 : Int32} {x3 : Int32} {x4 : Int32} {x5 : Int32} {c : Nat} (h : c ∉ [99, 100, 101, 102, 103, 104, 106]) : qA131_X12_report_68 n I A J t x1 x2 x3 x4 x5 c = A c := (fr_uc h (List.mem_of_getElem? (i := 6) rfl) (fr_qA120_X12_report_68 (fr_subc rfl h)))
theorem fr_qI139_X12_report_68 {n : Nat} {I : Nat → Nat → Int32} {A : Nat → Nat → Int32} {J : Nat → Nat → Int64} {t : Bool × Bool} {x1 : Int32} {x2 : Int32} {x3 : Int32} {x4 : Int32} {x5 : Int32} {c k : Nat} (h : (c, k) ∉ [(68, 50)]) : qI139_X12_report_68 n I A J t x1 x2 x3 x4 x5 c k = I c k := (fr_up h (List.mem_of_getElem? (i := 0) rfl) rfl)
theorem fr_pI_X12_report_68 {n : Nat} {I : Nat → Nat → Int32} {A : Nat → Nat → Int32} {J : Nat → Nat → Int64} {t : Bool × Bool} {x1 : Int32} {x2 : Int32} {x3 : Int32} {x4 : Int32} {x5 : Int32} {c k : Nat} (h : (c, k) ∉ [(68, 50)]) : pI_X12_report_68 n I A J t x1 x2 x3 x4 x5 c k = I c k := (fr_itep rfl (fr_itep rfl (fr_itep rfl (fr_itep rfl (fr_itep rfl (fr_itep rfl (fr_itep (fr_qI139_X12_report_68 (fr_subp rfl h)) rfl)))))))
theorem fr_pA_X12_report_68 {n : Nat} {I : Nat → Nat → Int32} {A : Nat → Nat → Int32} {J : Nat → Nat → Int64} {t : Bool × Bool} {x1 : Int32} {x2 : Int32} {x3 : Int32} {x4 : Int32} {x5 : Int32} {c : Nat} (h : c ∉ [99, 100, 101, 102, 103, 104, 106]) : pA_X12_report_68 n I A J t x1 x2 x3 x4 x5 c = A c := (fr_itec rfl (fr_itec rfl (fr_itec rfl (fr_itec rfl (fr_itec rfl (fr_itec rfl (fr_itec (fr_qA131_X12_report_68 (fr_subc rfl h)) rfl)))))))
theorem fr_qA60_X12_notice_68 {n : Nat} {I : Nat → Nat → Int32} {A : Nat → Nat → Int32} {J : Nat → Nat → Int64} {t : Bool × Bool} {x1 : Int32} {x2 : Int32} {x3 : Int32} {x4 : Int32} {x5 : Int32} {c : Nat} (h : c ∉ [99]) : qA60_X12_notice_68 n I A J t x1 x2 x3 x4 x5 c = A c := (fr_uc h (List.mem_of_getElem? (i := 0) rfl) rfl)
theorem fr_qA71_X12_notice_68 {n : Nat} {I : Nat → Nat → Int32} {A : Nat → Nat → Int32} {J : Nat → Nat → Int64} {t : Bool × Bool} {x1 : Int32} {x2 : Int32} {x3 : Int32} {x4 : Int32} {x5 : Int32} {c : Nat} (h : c ∉ [99, 100]) : qA71_X12_notice_68 n I A J t x1 x2 x3 x4 x5 c = A c := (fr_uc h (List.mem_of_getElem? (i := 1) rfl) (fr_qA60_X12_notice_68 (fr_subc rfl h)))
theorem fr_qA81_X12_notice_68 {n : Nat} {I : Nat → Nat → Int32} {A : Nat → Nat → Int32} {J : Nat → Nat → Int64} {t : Bool × Bool} {x1 : Int32} {x2 : Int32} {x3 : Int32} {x4 : Int32} {x5 : Int32} {c : Nat} (h : c ∉ [99, 100, 103]) : qA81_X12_notice_68 n I A J t x1 x2 x3 x4 x5 c = A c := (fr_uc h (List.mem_of_getElem? (i := 2) rfl) (fr_qA71_X12_notice_68 (fr_subc rfl h)))
theorem fr_qA91_X12_notice_68 {n : Nat} {I : Nat → Nat → Int32} {A : Nat → Nat → Int32} {J : Nat → Nat → Int64} {t : Bool × Bool} {x1 : Int32} {x2 : Int32} {x3 : Int32} {x4 : Int32} {x5 : Int32} {c : Nat} (h : c ∉ [99, 100, 103, 104]) : qA91_X12_notice_68 n I A J t x1 x2 x3 x4 x5 c = A c := (fr_uc h (List.mem_of_getElem? (i := 3) rfl) (fr_qA81_X12_notice_68 (fr_subc rfl h)))
theorem fr_qA101_X12_notice_68 {n : Nat} {I : Nat → Nat → Int32} {A : Nat → Nat → Int32} {J : Nat → Nat → Int64} {t : Bool × Bool} {x1 : Int32} {x2 : Int32} {x3 : Int32} {x4 : Int32} {x5 : Int32} {c : Nat} (h : c ∉ [99, 100, 103, 104, 105]) : qA101_X12_notice_68 n I A J t x1 x2 x3 x4 x5 c = A c := (fr_uc h (List.mem_of_getElem? (i := 4) rfl) (fr_qA91_X12_notice_68 (fr_subc rfl h)))
theorem fr_qA112_X12_notice_68 {n : Nat} {I : Nat → Nat → Int32} {A : Nat → Nat → Int32} {J : Nat → Nat → Int64} {t : Bool × Bool} {x1 : Int32} {x2 : Int32} {x3 : Int32} {x4 : Int32} {x5 : Int32} {c : Nat} (h : c ∉ [99, 100, 102, 103, 104, 105]) : qA112_X12_notice_68 n I A J t x1 x2 x3 x4 x5 c = A c := (fr_uc h (List.mem_of_getElem? (i := 2) rfl) (fr_qA101_X12_notice_68 (fr_subc rfl h)))
theorem fr_qI120_X12_notice_68 {n : Nat} {I : Nat → Nat → Int32} {A : Nat → Nat → Int32} {J : Nat → Nat → Int64} {t : Bool × Bool} {x1 : Int32} {x2 : Int32} {x3 : Int32} {x4 : Int32} {x5 : Int32} {c k : Nat} (h : (c, k) ∉ [(68, 50)]) : qI120_X12_notice_68 n I A J t x1 x2 x3 x4 x5 c k = I c k := (fr_up h (List.mem_of_getElem? (i := 0) rfl) rfl)
theorem fr_pI_X12_notice_68 {n : Nat} {I : Nat → Nat → Int32} {A : Nat → Nat → Int32} {J : Nat → Nat → Int64} {t : Bool × Bool} {x1 : Int32} {x2 : Int32} {x3 : Int32} {x4 : Int32} {x5 : Int32} {c k : Nat} (h : (c, k) ∉ [(68, 50)]) : pI_X12_notice_68 n I A J t x1 x2 x3 x4 x5 c k = I c k := (fr_itep rfl (fr_itep rfl (fr_itep rfl (fr_itep rfl (fr_itep rfl (fr_itep rfl (fr_itep (fr_qI120_X12_notice_68 (fr_subp rfl h)) rfl)))))))
theorem fr_pA_X12_notice_68 {n : Nat} {I : Nat → Nat → Int32} {A : Nat → Nat → Int32} {J : Nat → Nat → Int64} {t : Bool × Bool} {x1 : Int32} {x2 : Int32} {x3 : Int32} {x4 : Int32} {x5 : Int32} {c : Nat} (h : c ∉ [99, 100, 102, 103, 104, 105]) : pA_X12_notice_68 n I A J t x1 x2 x3 x4 x5 c = A c := (fr_itec rfl (fr_itec rfl (fr_itec rfl (fr_itec rfl (fr_itec rfl (fr_itec rfl (fr_itec (fr_qA112_X12_notice_68 (fr_subc rfl h)) rfl)))))))
theorem fr_qI137_X12_goes_68 {n : Nat} {I : Nat → Nat → Int32} {A : Nat → Nat → Int32} {J : Nat → Nat → Int64} {t : Bool × Bool} {x1 : Int32} {x2 : Int32} {c k : Nat} (h : (c, k) ∉ [(68, 59)]) : qI137_X12_goes_68 n I A J t x1 x2 c k = I c k := (fr_up h (List.mem_of_getElem? (i := 0) rfl) rfl)
theorem fr_qI142_X12_goes_68 {n : Nat} {I : Nat → Nat → Int32} {A : Nat → Nat → Int32} {J : Nat → Nat → Int64} {t : Bool × Bool} {x1 : Int32} {x2 : Int32} {c k : Nat} (h : (c, k) ∉ [(68, 59), (68, 60)]) : qI142_X12_goes_68 n I A J t x1 x2 c k = I c k := (fr_up h (List.mem_of_getElem? (i := 1) rfl) (fr_qI137_X12_goes_68 (fr_subp rfl h)))
theorem fr_qI157_X12_goes_68 {n : Nat} {I : Nat → Nat → Int32} {A : Nat → Nat → Int32} {J : Nat → Nat → Int64} {t : Bool × Bool} {x1 : Int32} {x2 : Int32} {c k : Nat} (h : (c, k) ∉ [(68, 59), (68, 60)]) : qI157_X12_goes_68 n I A J t x1 x2 c k = I c k := (fr_up h (List.mem_of_getElem? (i := 0) rfl) (fr_qI142_X12_goes_68 (fr_subp rfl h)))
theorem fr_qI162_X12_goes_68 {n : Nat} {I : Nat → Nat → Int32} {A : Nat → Nat → Int32} {J : Nat → Nat → Int64} {t : Bool × Bool} {x1 : Int32} {x2 : Int32} {c k : Nat} (h : (c, k) ∉ [(68, 59), (68, 60)]) : qI162_X12_goes_68 n I A J t x1 x2 c k = I c k := (fr_up h (List.mem_of_getElem? (i := 1) rfl) (fr_qI157_X12_goes_68 (fr_subp rfl h)))
theorem fr_qIm151_X12_goes_68 {n : Nat} {I : Nat → Nat → Int32} {A : Nat → Nat → Int32} {J : Nat → Nat → Int64} {t : Bool × Bool} {x1 : Int32} {x2 : Int32} {c k : Nat} (h : (c, k) ∉ [(68, 59), (68, 60)]) : qIm151_X12_goes_68 n I A J t x1 x2 c k = I c k := (fr_itep (fr_qI142_X12_goes_68 (fr_subp rfl h)) (fr_qI162_X12_goes_68 (fr_subp rfl h)))
theorem fr_qI177_X12_goes_68 {n : Nat} {I : Nat → Nat → Int32} {A : Nat → Nat → Int32} {J : Nat → Nat → Int64} {t : Bool × Bool} {x1 : Int32} {x2 : Int32} {c k : Nat} (h : (c, k) ∉ [(68, 59), (68, 60)]) : qI177_X12_goes_68 n I A J t x1 x2 c k = I c k := (fr_up h (List.mem_of_getElem? (i := 0) rfl) (fr_qIm151_X12_goes_68 (fr_subp rfl h)))
theorem fr_qI182_X12_goes_68 {n : Nat} {I : Nat → Nat → Int32} {A : Nat → Nat → Int32} {J : Nat → Nat → Int64} {t : Bool × Bool} {x1 : Int32} {x2 : Int32} {c k : Nat} (h : (c, k) ∉ [(68, 59), (68, 60)]) : qI182_X12_goes_68 n I A J t x1 x2 c k = I c k := (fr_up h (List.mem_of_getElem? (i := 1) rfl) (fr_qI177_X12_goes_68 (fr_subp rfl h)))
theorem fr_qIm171_X12_goes_68 {n : Nat} {I : Nat → Nat → Int32} {A : Nat → Nat → Int32} {J : Nat → Nat → Int64} {t : Bool × Bool} {x1 : Int32} {x2 : Int32} {c k : Nat} (h : (c, k) ∉ [(68, 59), (68, 60)]) : qIm171_X12_goes_68 n I A J t x1 x2 c k = I c k := (fr_itep (fr_qIm151_X12_goes_68 (fr_subp rfl h)) (fr_qI182_X12_goes_68 (fr_subp rfl h)))
theorem fr_qI199_X12_goes_68 {n : Nat} {I : Nat → Nat → Int32} {A : Nat → Nat → Int32} {J : Nat → Nat → Int64} {t : Bool × Bool} {x1 : Int32} {x2 : Int32} {c k : Nat} (h : (c, k) ∉ [(68, 59), (68, 60), (68, 61)]) : qI199_X12_goes_68 n I A J t x1 x2 c k = I c k := (fr_up h (List.mem_of_getElem? (i := 2) rfl) (fr_qIm171_X12_goes_68 (fr_subp rfl h)))
theorem fr_qI353_X12_goes_68 {n : Nat} {I : Nat → Nat → Int32} {A : Nat → Nat → Int32} {J : Nat → Nat → Int64} {t : Bool × Bool} {x1 : Int32} {x2 : Int32} {c k : Nat} (h : (c, k) ∉ [(68, 59), (68, 60), (68, 61)]) : qI353_X12_goes_68 n I A J t x1 x2 c k = I c k := (fr_up h (List.mem_of_getElem? (i := 2) rfl) (fr_qI199_X12_goes_68 (fr_subp rfl h)))
theorem fr_qI323_X12_goes_68 {n : Nat} {I : Nat → Nat → Int32} {A : Nat → Nat → Int32} {J : Nat → Nat → Int64} {t : Bool × Bool} {x1 : Int32} {x2 : Int32} {c k : Nat} (h : (c, k) ∉ [(68, 59), (68, 60), (68, 61)]) : qI323_X12_goes_68 n I A J t x1 x2 c k = I c k := (fr_up h (List.mem_of_getElem? (i := 2) rfl) (fr_qI199_X12_goes_68 (fr_subp rfl h)))
theorem fr_qIm298_X12_goes_68 {n : Nat} {I : Nat → Nat → Int32} {A : Nat → Nat → Int32} {J : Nat → Nat → Int64} {t : Bool × Bool} {x1 : Int32} {x2 : Int32} {c k : Nat} (h : (c, k) ∉ [(68, 59), (68, 60), (68, 61)]) : qIm298_X12_goes_68 n I A J t x1 x2 c k = I c k := (fr_itep (fr_qI323_X12_goes_68 (fr_subp rfl h)) (fr_qI353_X12_goes_68 (fr_subp rfl h)))
theorem fr_qI289_X12_goes_68 {n : Nat} {I : Nat → Nat → Int32} {A : Nat → Nat → Int32} {J : Nat → Nat → Int64} {t : Bool × Bool} {x1 : Int32} {x2 : Int32} {c k : Nat} (h : (c, k) ∉ [(68, 59), (68, 60), (68, 61)]) : qI289_X12_goes_68 n I A J t x1 x2 c k = I c k := (fr_up h (List.mem_of_getElem? (i := 2) rfl) (fr_qI199_X12_goes_68 (fr_subp rfl h)))
theorem fr_qIm274_X12_goes_68 {n : Nat} {I : Nat → Nat → Int32} {A : Nat → Nat → Int32} {J : Nat → Nat → Int64} {t : Bool × Bool} {x1 : Int32} {x2 : Int32} {c k : Nat} (h : (c, k) ∉ [(68, 59), (68, 60), (68, 61)]) : qIm274_X12_goes_68 n I A J t x1 x2 c k = I c k := (fr_itep (fr_qI289_X12_goes_68 (fr_subp rfl h)) (fr_qIm298_X12_goes_68 (fr_subp rfl h)))
theorem fr_pI_X12_goes_68 {n : Nat} {I : Nat → Nat → Int32} {A : Nat → Nat → Int32} {J : Nat → Nat → Int64} {t : Bool × Bool} {x1 : Int32} {x2 : Int32} {c k : Nat} (h : (c, k) ∉ [(68, 59), (68, 60), (68, 61)]) : pI_X12_goes_68 n I A J t x1 x2 c k = I c k := (fr_itep (fr_qIm274_X12_goes_68 (fr_subp rfl h)) (fr_qI199_X12_goes_68 (fr_subp rfl h)))
theorem fr_pI_X12_way_68 {n : Nat} {I : Nat → Nat → Int32} {A : Nat → Nat → Int32} {J : Nat → Nat → Int64} {t : Bool × Bool} {x1 : Int32} {x2 : Int32} {x3 : Int32} {c k : Nat} (h : (c, k) ∉ [(68, 59), (68, 60), (68, 61)]) : pI_X12_way_68 n I A J t x1 x2 x3 c k = I c k := (fr_itep rfl (fr_itep rfl (fr_pI_X12_goes_68 (fr_subp rfl h))))
theorem fr_pI_X12_toldBy_68 {n : Nat} {I : Nat → Nat → Int32} {A : Nat → Nat → Int32} {J : Nat → Nat → Int64} {t : Bool × Bool} {x1 : Int32} {x2 : Int32} {x3 : Int32} {x4 : Int32} {x5 : Int32} {c k : Nat} (h : (c, k) ∉ [(68, 59), (68, 60), (68, 61)]) : pI_X12_toldBy_68 n I A J t x1 x2 x3 x4 x5 c k = I c k := (fr_pI_X12_goes_68 (fr_subp rfl h))
theorem fr_qIm56_X12_corrected_68 {n : Nat} {I : Nat → Nat → Int32} {A : Nat → Nat → Int32} {J : Nat → Nat → Int64} {t : Bool × Bool} {x1 : Int32} {x2 : Int32} {x3 : Int32} {x4 : Int32} {I9 : Nat → Nat → Int32} {v9_5 : Int32} {v9_6 : Int32} {v9_7 : Int32} {c k : Nat} (h : (c, k) ∉ [(68, 59), (68, 60), (68, 61)]) : qIm56_X12_corrected_68 n I A J t x1 x2 x3 x4 I9 v9_5 v9_6 v9_7 c k = I9 c k := (fr_itep (fr_pI_X12_toldBy_68 (fr_subp rfl h)) rfl)
theorem fr_qIm45_X12_corrected_68 {n : Nat} {I : Nat → Nat → Int32} {A : Nat → Nat → Int32} {J : Nat → Nat → Int64} {t : Bool × Bool} {x1 : Int32} {x2 : Int32} {x3 : Int32} {x4 : Int32} {I9 : Nat → Nat → Int32} {v9_5 : Int32} {v9_6 : Int32} {v9_7 : Int32} {c k : Nat} (h : (c, k) ∉ [(68, 59), (68, 60), (68, 61)]) : qIm45_X12_corrected_68 n I A J t x1 x2 x3 x4 I9 v9_5 v9_6 v9_7 c k = I9 c k := (fr_itep (fr_qIm56_X12_corrected_68 (fr_subp rfl h)) rfl)
theorem fr_qIm34_X12_corrected_68 {n : Nat} {I : Nat → Nat → Int32} {A : Nat → Nat → Int32} {J : Nat → Nat → Int64} {t : Bool × Bool} {x1 : Int32} {x2 : Int32} {x3 : Int32} {x4 : Int32} {I9 : Nat → Nat → Int32} {v9_5 : Int32} {v9_6 : Int32} {v9_7 : Int32} {c k : Nat} (h : (c, k) ∉ [(68, 59), (68, 60), (68, 61)]) : qIm34_X12_corrected_68 n I A J t x1 x2 x3 x4 I9 v9_5 v9_6 v9_7 c k = I9 c k := (fr_itep (fr_qIm45_X12_corrected_68 (fr_subp rfl h)) rfl)
theorem fr_qIm23_X12_corrected_68 {n : Nat} {I : Nat → Nat → Int32} {A : Nat → Nat → Int32} {J : Nat → Nat → Int64} {t : Bool × Bool} {x1 : Int32} {x2 : Int32} {x3 : Int32} {x4 : Int32} {I9 : Nat → Nat → Int32} {v9_5 : Int32} {v9_6 : Int32} {v9_7 : Int32} {c k : Nat} (h : (c, k) ∉ [(68, 59), (68, 60), (68, 61)]) : qIm23_X12_corrected_68 n I A J t x1 x2 x3 x4 I9 v9_5 v9_6 v9_7 c k = I9 c k := (fr_itep (fr_qIm34_X12_corrected_68 (fr_subp rfl h)) rfl)
theorem fr_lp_X12_corrected_68_9_c0 {n : Nat} {I : Nat → Nat → Int32} {A : Nat → Nat → Int32} {J : Nat → Nat → Int64} {t : Bool × Bool} {x1 : Int32} {x2 : Int32} {x3 : Int32} {x4 : Int32} {c k : Nat} (h : (c, k) ∉ [(68, 59), (68, 60), (68, 61)]) : ∀ (f : Nat) (I9 : Nat → Nat → Int32) (v9_5 : Int32) (v9_6 : Int32) (v9_7 : Int32), (lp_X12_corrected_68_9 n I A J t x1 x2 x3 x4 f I9 v9_5 v9_6 v9_7).1 c k = I9 c k := by
  intro f
  induction f with
  | zero => intro _ _ _ _; rfl
  | succ f ih =>
    intro I9 v9_5 v9_6 v9_7
    unfold lp_X12_corrected_68_9
    split
    · exact rfl
    · exact (ih _ _ _ _).trans (fr_qIm23_X12_corrected_68 (fr_subp rfl h))
theorem fr_qIw9_X12_corrected_68 {n : Nat} {I : Nat → Nat → Int32} {A : Nat → Nat → Int32} {J : Nat → Nat → Int64} {t : Bool × Bool} {x1 : Int32} {x2 : Int32} {x3 : Int32} {x4 : Int32} {c k : Nat} (h : (c, k) ∉ [(68, 59), (68, 60), (68, 61)]) : qIw9_X12_corrected_68 n I A J t x1 x2 x3 x4 c k = I c k := (fr_lp_X12_corrected_68_9_c0 (fr_subp rfl h) _ _ _ _ _)
theorem fr_pI_X12_corrected_68 {n : Nat} {I : Nat → Nat → Int32} {A : Nat → Nat → Int32} {J : Nat → Nat → Int64} {t : Bool × Bool} {x1 : Int32} {x2 : Int32} {x3 : Int32} {x4 : Int32} {c k : Nat} (h : (c, k) ∉ [(68, 59), (68, 60), (68, 61)]) : pI_X12_corrected_68 n I A J t x1 x2 x3 x4 c k = I c k := (fr_qIw9_X12_corrected_68 (fr_subp rfl h))
theorem fr_qIm29_X12_correction_68 {n : Nat} {I : Nat → Nat → Int32} {A : Nat → Nat → Int32} {J : Nat → Nat → Int64} {t : Bool × Bool} {x1 : Int32} {x2 : Int32} {x3 : Int32} {x4 : Int32} {c k : Nat} (h : (c, k) ∉ [(68, 59), (68, 60), (68, 61)]) : qIm29_X12_correction_68 n I A J t x1 x2 x3 x4 c k = I c k := (fr_itep rfl (fr_pI_X12_corrected_68 (fr_subp rfl h)))
theorem fr_qIm20_X12_correction_68 {n : Nat} {I : Nat → Nat → Int32} {A : Nat → Nat → Int32} {J : Nat → Nat → Int64} {t : Bool × Bool} {x1 : Int32} {x2 : Int32} {x3 : Int32} {x4 : Int32} {c k : Nat} (h : (c, k) ∉ [(68, 59), (68, 60), (68, 61)]) : qIm20_X12_correction_68 n I A J t x1 x2 x3 x4 c k = I c k := (fr_itep rfl (fr_qIm29_X12_correction_68 (fr_subp rfl h)))
theorem fr_qIm13_X12_correction_68 {n : Nat} {I : Nat → Nat → Int32} {A : Nat → Nat → Int32} {J : Nat → Nat → Int64} {t : Bool × Bool} {x1 : Int32} {x2 : Int32} {x3 : Int32} {x4 : Int32} {c k : Nat} (h : (c, k) ∉ [(68, 59), (68, 60), (68, 61)]) : qIm13_X12_correction_68 n I A J t x1 x2 x3 x4 c k = I c k := (fr_itep rfl (fr_qIm20_X12_correction_68 (fr_subp rfl h)))
theorem fr_qIm5_X12_correction_68 {n : Nat} {I : Nat → Nat → Int32} {A : Nat → Nat → Int32} {J : Nat → Nat → Int64} {t : Bool × Bool} {x1 : Int32} {x2 : Int32} {x3 : Int32} {x4 : Int32} {c k : Nat} (h : (c, k) ∉ [(68, 59), (68, 60), (68, 61)]) : qIm5_X12_correction_68 n I A J t x1 x2 x3 x4 c k = I c k := (fr_itep rfl (fr_qIm13_X12_correction_68 (fr_subp rfl h)))
theorem fr_pI_X12_correction_68 {n : Nat} {I : Nat → Nat → Int32} {A : Nat → Nat → Int32} {J : Nat → Nat → Int64} {t : Bool × Bool} {x1 : Int32} {x2 : Int32} {x3 : Int32} {x4 : Int32} {c k : Nat} (h : (c, k) ∉ [(68, 59), (68, 60), (68, 61)]) : pI_X12_correction_68 n I A J t x1 x2 x3 x4 c k = I c k := (fr_qIm5_X12_correction_68 (fr_subp rfl h))
theorem fr_qIm23_X12_strengthOf_68 {n : Nat} {I : Nat → Nat → Int32} {A : Nat → Nat → Int32} {J : Nat → Nat → Int64} {t : Bool × Bool} {x1 : Int32} {x2 : Int32} {x3 : Int32} {x4 : Int32} {x5 : Int32} {x6 : Int32} {c k : Nat} (h : (c, k) ∉ [(68, 59), (68, 60), (68, 61)]) : qIm23_X12_strengthOf_68 n I A J t x1 x2 x3 x4 x5 x6 c k = I c k := (fr_itep (fr_pI_X12_toldBy_68 (fr_subp rfl h)) ((fr_pI_X12_corrected_68 (fr_subp rfl h)).trans (fr_pI_X12_toldBy_68 (fr_subp rfl h))))
theorem fr_pI_X12_strengthOf_68 {n : Nat} {I : Nat → Nat → Int32} {A : Nat → Nat → Int32} {J : Nat → Nat → Int64} {t : Bool × Bool} {x1 : Int32} {x2 : Int32} {x3 : Int32} {x4 : Int32} {x5 : Int32} {x6 : Int32} {c k : Nat} (h : (c, k) ∉ [(68, 59), (68, 60), (68, 61)]) : pI_X12_strengthOf_68 n I A J t x1 x2 x3 x4 x5 x6 c k = I c k := (fr_qIm23_X12_strengthOf_68 (fr_subp rfl h))
theorem fr_qIm20_X12_strength_68 {n : Nat} {I : Nat → Nat → Int32} {A : Nat → Nat → Int32} {J : Nat → Nat → Int64} {t : Bool × Bool} {x1 : Int32} {x2 : Int32} {x3 : Int32} {x4 : Int32} {x5 : Int32} {x6 : Int32} {c k : Nat} (h : (c, k) ∉ [(68, 59), (68, 60), (68, 61)]) : qIm20_X12_strength_68 n I A J t x1 x2 x3 x4 x5 x6 c k = I c k := (fr_itep rfl (fr_pI_X12_strengthOf_68 (fr_subp rfl h)))
theorem fr_qIm11_X12_strength_68 {n : Nat} {I : Nat → Nat → Int32} {A : Nat → Nat → Int32} {J : Nat → Nat → Int64} {t : Bool × Bool} {x1 : Int32} {x2 : Int32} {x3 : Int32} {x4 : Int32} {x5 : Int32} {x6 : Int32} {c k : Nat} (h : (c, k) ∉ [(68, 59), (68, 60), (68, 61)]) : qIm11_X12_strength_68 n I A J t x1 x2 x3 x4 x5 x6 c k = I c k := (fr_itep rfl (fr_qIm20_X12_strength_68 (fr_subp rfl h)))
theorem fr_pI_X12_strength_68 {n : Nat} {I : Nat → Nat → Int32} {A : Nat → Nat → Int32} {J : Nat → Nat → Int64} {t : Bool × Bool} {x1 : Int32} {x2 : Int32} {x3 : Int32} {x4 : Int32} {x5 : Int32} {x6 : Int32} {c k : Nat} (h : (c, k) ∉ [(68, 59), (68, 60), (68, 61)]) : pI_X12_strength_68 n I A J t x1 x2 x3 x4 x5 x6 c k = I c k := (fr_qIm11_X12_strength_68 (fr_subp rfl h))
theorem fr_pI_X12_clashes_68 {n : Nat} {I : Nat → Nat → Int32} {A : Nat → Nat → Int32} {J : Nat → Nat → Int64} {t : Bool × Bool} {x1 : Int32} {x2 : Int32} {x3 : Int32} {x4 : Int32} {x5 : Int32} {c k : Nat} (h : (c, k) ∉ [(68, 59), (68, 60), (68, 61)]) : pI_X12_clashes_68 n I A J t x1 x2 x3 x4 x5 c k = I c k := (fr_itep rfl (fr_itep rfl (fr_itep (fr_itep rfl (fr_itep (fr_pI_X12_goes_68 (fr_subp rfl h)) rfl)) rfl)))
theorem fr_qI2_X12_cut_68 {n : Nat} {I : Nat → Nat → Int32} {A : Nat → Nat → Int32} {J : Nat → Nat → Int64} {t : Bool × Bool} {c k : Nat} (h : (c, k) ∉ [(68, 10)]) : qI2_X12_cut_68 n I A J t c k = I c k := (fr_up h (List.mem_of_getElem? (i := 0) rfl) rfl)
theorem fr_qIm200_X12_cut_68 {n : Nat} {I : Nat → Nat → Int32} {A : Nat → Nat → Int32} {J : Nat → Nat → Int64} {t : Bool × Bool} {I7 : Nat → Nat → Int32} {A7 : Nat → Nat → Int32} {J7 : Nat → Nat → Int64} {v7_1 : Int32} {c k : Nat} (h : (c, k) ∉ [(68, 10)]) : qIm200_X12_cut_68 n I A J t I7 A7 J7 v7_1 c k = I7 c k := (fr_itep (fr_pI_X12_sign_68 (fr_subp rfl h)) (fr_pI_X12_token_68 (fr_subp rfl h)))
theorem fr_qAm200_X12_cut_68 {n : Nat} {I : Nat → Nat → Int32} {A : Nat → Nat → Int32} {J : Nat → Nat → Int64} {t : Bool × Bool} {I7 : Nat → Nat → Int32} {A7 : Nat → Nat → Int32} {J7 : Nat → Nat → Int64} {v7_1 : Int32} {c : Nat} (h : c ∉ [71, 72, 73]) : qAm200_X12_cut_68 n I A J t I7 A7 J7 v7_1 c = A7 c := (fr_itec (fr_pA_X12_sign_68 (fr_subc rfl h)) (fr_pA_X12_token_68 (fr_subc rfl h)))
theorem fr_qJm200_X12_cut_68 {n : Nat} {I : Nat → Nat → Int32} {A : Nat → Nat → Int32} {J : Nat → Nat → Int64} {t : Bool × Bool} {I7 : Nat → Nat → Int32} {A7 : Nat → Nat → Int32} {J7 : Nat → Nat → Int64} {v7_1 : Int32} {c : Nat} (h : c ∉ [74]) : qJm200_X12_cut_68 n I A J t I7 A7 J7 v7_1 c = J7 c := (fr_itec (fr_pJ_X12_sign_68 (fr_subc rfl h)) (fr_pJ_X12_token_68 (fr_subc rfl h)))
theorem fr_qIm77_X12_cut_68 {n : Nat} {I : Nat → Nat → Int32} {A : Nat → Nat → Int32} {J : Nat → Nat → Int64} {t : Bool × Bool} {I7 : Nat → Nat → Int32} {A7 : Nat → Nat → Int32} {J7 : Nat → Nat → Int64} {v7_1 : Int32} {c k : Nat} (h : (c, k) ∉ [(68, 10)]) : qIm77_X12_cut_68 n I A J t I7 A7 J7 v7_1 c k = I7 c k := (fr_itep (fr_qIm200_X12_cut_68 (fr_subp rfl h)) (fr_pI_X12_token_68 (fr_subp rfl h)))
theorem fr_qAm77_X12_cut_68 {n : Nat} {I : Nat → Nat → Int32} {A : Nat → Nat → Int32} {J : Nat → Nat → Int64} {t : Bool × Bool} {I7 : Nat → Nat → Int32} {A7 : Nat → Nat → Int32} {J7 : Nat → Nat → Int64} {v7_1 : Int32} {c : Nat} (h : c ∉ [71, 72, 73]) : qAm77_X12_cut_68 n I A J t I7 A7 J7 v7_1 c = A7 c := (fr_itec (fr_qAm200_X12_cut_68 (fr_subc rfl h)) (fr_pA_X12_token_68 (fr_subc rfl h)))
theorem fr_qJm77_X12_cut_68 {n : Nat} {I : Nat → Nat → Int32} {A : Nat → Nat → Int32} {J : Nat → Nat → Int64} {t : Bool × Bool} {I7 : Nat → Nat → Int32} {A7 : Nat → Nat → Int32} {J7 : Nat → Nat → Int64} {v7_1 : Int32} {c : Nat} (h : c ∉ [74]) : qJm77_X12_cut_68 n I A J t I7 A7 J7 v7_1 c = J7 c := (fr_itec (fr_qJm200_X12_cut_68 (fr_subc rfl h)) (fr_pJ_X12_token_68 (fr_subc rfl h)))
theorem fr_qIm64_X12_cut_68 {n : Nat} {I : Nat → Nat → Int32} {A : Nat → Nat → Int32} {J : Nat → Nat → Int64} {t : Bool × Bool} {I7 : Nat → Nat → Int32} {A7 : Nat → Nat → Int32} {J7 : Nat → Nat → Int64} {v7_1 : Int32} {c k : Nat} (h : (c, k) ∉ [(68, 10)]) : qIm64_X12_cut_68 n I A J t I7 A7 J7 v7_1 c k = I7 c k := (fr_itep rfl (fr_qIm77_X12_cut_68 (fr_subp rfl h)))
theorem fr_qAm64_X12_cut_68 {n : Nat} {I : Nat → Nat → Int32} {A : Nat → Nat → Int32} {J : Nat → Nat → Int64} {t : Bool × Bool} {I7 : Nat → Nat → Int32} {A7 : Nat → Nat → Int32} {J7 : Nat → Nat → Int64} {v7_1 : Int32} {c : Nat} (h : c ∉ [71, 72, 73]) : qAm64_X12_cut_68 n I A J t I7 A7 J7 v7_1 c = A7 c := (fr_itec rfl (fr_qAm77_X12_cut_68 (fr_subc rfl h)))
theorem fr_qJm64_X12_cut_68 {n : Nat} {I : Nat → Nat → Int32} {A : Nat → Nat → Int32} {J : Nat → Nat → Int64} {t : Bool × Bool} {I7 : Nat → Nat → Int32} {A7 : Nat → Nat → Int32} {J7 : Nat → Nat → Int64} {v7_1 : Int32} {c : Nat} (h : c ∉ [74]) : qJm64_X12_cut_68 n I A J t I7 A7 J7 v7_1 c = J7 c := (fr_itec rfl (fr_qJm77_X12_cut_68 (fr_subc rfl h)))
theorem fr_qIm58_X12_cut_68 {n : Nat} {I : Nat → Nat → Int32} {A : Nat → Nat → Int32} {J : Nat → Nat → Int64} {t : Bool × Bool} {I7 : Nat → Nat → Int32} {A7 : Nat → Nat → Int32} {J7 : Nat → Nat → Int64} {v7_1 : Int32} {c k : Nat} (h : (c, k) ∉ [(68, 10)]) : qIm58_X12_cut_68 n I A J t I7 A7 J7 v7_1 c k = I7 c k := (fr_itep rfl (fr_qIm64_X12_cut_68 (fr_subp rfl h)))
theorem fr_qAm58_X12_cut_68 {n : Nat} {I : Nat → Nat → Int32} {A : Nat → Nat → Int32} {J : Nat → Nat → Int64} {t : Bool × Bool} {I7 : Nat → Nat → Int32} {A7 : Nat → Nat → Int32} {J7 : Nat → Nat → Int64} {v7_1 : Int32} {c : Nat} (h : c ∉ [71, 72, 73]) : qAm58_X12_cut_68 n I A J t I7 A7 J7 v7_1 c = A7 c := (fr_itec rfl (fr_qAm64_X12_cut_68 (fr_subc rfl h)))
theorem fr_qJm58_X12_cut_68 {n : Nat} {I : Nat → Nat → Int32} {A : Nat → Nat → Int32} {J : Nat → Nat → Int64} {t : Bool × Bool} {I7 : Nat → Nat → Int32} {A7 : Nat → Nat → Int32} {J7 : Nat → Nat → Int64} {v7_1 : Int32} {c : Nat} (h : c ∉ [74]) : qJm58_X12_cut_68 n I A J t I7 A7 J7 v7_1 c = J7 c := (fr_itec rfl (fr_qJm64_X12_cut_68 (fr_subc rfl h)))
theorem fr_qIm52_X12_cut_68 {n : Nat} {I : Nat → Nat → Int32} {A : Nat → Nat → Int32} {J : Nat → Nat → Int64} {t : Bool × Bool} {I7 : Nat → Nat → Int32} {A7 : Nat → Nat → Int32} {J7 : Nat → Nat → Int64} {v7_1 : Int32} {c k : Nat} (h : (c, k) ∉ [(68, 10)]) : qIm52_X12_cut_68 n I A J t I7 A7 J7 v7_1 c k = I7 c k := (fr_itep rfl (fr_qIm58_X12_cut_68 (fr_subp rfl h)))
theorem fr_qAm52_X12_cut_68 {n : Nat} {I : Nat → Nat → Int32} {A : Nat → Nat → Int32} {J : Nat → Nat → Int64} {t : Bool × Bool} {I7 : Nat → Nat → Int32} {A7 : Nat → Nat → Int32} {J7 : Nat → Nat → Int64} {v7_1 : Int32} {c : Nat} (h : c ∉ [71, 72, 73]) : qAm52_X12_cut_68 n I A J t I7 A7 J7 v7_1 c = A7 c := (fr_itec rfl (fr_qAm58_X12_cut_68 (fr_subc rfl h)))
theorem fr_qJm52_X12_cut_68 {n : Nat} {I : Nat → Nat → Int32} {A : Nat → Nat → Int32} {J : Nat → Nat → Int64} {t : Bool × Bool} {I7 : Nat → Nat → Int32} {A7 : Nat → Nat → Int32} {J7 : Nat → Nat → Int64} {v7_1 : Int32} {c : Nat} (h : c ∉ [74]) : qJm52_X12_cut_68 n I A J t I7 A7 J7 v7_1 c = J7 c := (fr_itec rfl (fr_qJm58_X12_cut_68 (fr_subc rfl h)))
theorem fr_qIm46_X12_cut_68 {n : Nat} {I : Nat → Nat → Int32} {A : Nat → Nat → Int32} {J : Nat → Nat → Int64} {t : Bool × Bool} {I7 : Nat → Nat → Int32} {A7 : Nat → Nat → Int32} {J7 : Nat → Nat → Int64} {v7_1 : Int32} {c k : Nat} (h : (c, k) ∉ [(68, 10)]) : qIm46_X12_cut_68 n I A J t I7 A7 J7 v7_1 c k = I7 c k := (fr_itep rfl (fr_qIm52_X12_cut_68 (fr_subp rfl h)))
theorem fr_qAm46_X12_cut_68 {n : Nat} {I : Nat → Nat → Int32} {A : Nat → Nat → Int32} {J : Nat → Nat → Int64} {t : Bool × Bool} {I7 : Nat → Nat → Int32} {A7 : Nat → Nat → Int32} {J7 : Nat → Nat → Int64} {v7_1 : Int32} {c : Nat} (h : c ∉ [71, 72, 73]) : qAm46_X12_cut_68 n I A J t I7 A7 J7 v7_1 c = A7 c := (fr_itec rfl (fr_qAm52_X12_cut_68 (fr_subc rfl h)))
theorem fr_qJm46_X12_cut_68 {n : Nat} {I : Nat → Nat → Int32} {A : Nat → Nat → Int32} {J : Nat → Nat → Int64} {t : Bool × Bool} {I7 : Nat → Nat → Int32} {A7 : Nat → Nat → Int32} {J7 : Nat → Nat → Int64} {v7_1 : Int32} {c : Nat} (h : c ∉ [74]) : qJm46_X12_cut_68 n I A J t I7 A7 J7 v7_1 c = J7 c := (fr_itec rfl (fr_qJm52_X12_cut_68 (fr_subc rfl h)))
theorem fr_lp_X12_cut_68_7_c0 {n : Nat} {I : Nat → Nat → Int32} {A : Nat → Nat → Int32} {J : Nat → Nat → Int64} {t : Bool × Bool} {c k : Nat} (h : (c, k) ∉ [(68, 10)]) : ∀ (f : Nat) (I7 : Nat → Nat → Int32) (A7 : Nat → Nat → Int32) (J7 : Nat → Nat → Int64) (v7_1 : Int32), (lp_X12_cut_68_7 n I A J t f I7 A7 J7 v7_1).1 c k = I7 c k := by
  intro f
  induction f with
  | zero => intro _ _ _ _; rfl
  | succ f ih =>
    intro I7 A7 J7 v7_1
    unfold lp_X12_cut_68_7
    split
    · exact rfl
    · split
      · exact (ih _ _ _ _).trans (fr_qIm46_X12_cut_68 (fr_subp rfl h))
      · (try dsimp only); exact (fr_pI_X12_token_68 (fr_subp rfl h))
theorem fr_lp_X12_cut_68_7_c1 {n : Nat} {I : Nat → Nat → Int32} {A : Nat → Nat → Int32} {J : Nat → Nat → Int64} {t : Bool × Bool} {c : Nat} (h : c ∉ [71, 72, 73]) : ∀ (f : Nat) (I7 : Nat → Nat → Int32) (A7 : Nat → Nat → Int32) (J7 : Nat → Nat → Int64) (v7_1 : Int32), (lp_X12_cut_68_7 n I A J t f I7 A7 J7 v7_1).2.1 c = A7 c := by
  intro f
  induction f with
  | zero => intro _ _ _ _; rfl
  | succ f ih =>
    intro I7 A7 J7 v7_1
    unfold lp_X12_cut_68_7
    split
    · exact rfl
    · split
      · exact (ih _ _ _ _).trans (fr_qAm46_X12_cut_68 (fr_subc rfl h))
      · (try dsimp only); exact (fr_pA_X12_token_68 (fr_subc rfl h))
theorem fr_lp_X12_cut_68_7_c2 {n : Nat} {I : Nat → Nat → Int32} {A : Nat → Nat → Int32} {J : Nat → Nat → Int64} {t : Bool × Bool} {c : Nat} (h : c ∉ [74]) : ∀ (f : Nat) (I7 : Nat → Nat → Int32) (A7 : Nat → Nat → Int32) (J7 : Nat → Nat → Int64) (v7_1 : Int32), (lp_X12_cut_68_7 n I A J t f I7 A7 J7 v7_1).2.2 c = J7 c := by
  intro f
  induction f with
  | zero => intro _ _ _ _; rfl
  | succ f ih =>
    intro I7 A7 J7 v7_1
    unfold lp_X12_cut_68_7
    split
    · exact rfl
    · split
      · exact (ih _ _ _ _).trans (fr_qJm46_X12_cut_68 (fr_subc rfl h))
      · (try dsimp only); exact (fr_pJ_X12_token_68 (fr_subc rfl h))
theorem fr_pI_X12_cut_68 {n : Nat} {I : Nat → Nat → Int32} {A : Nat → Nat → Int32} {J : Nat → Nat → Int64} {t : Bool × Bool} {c k : Nat} (h : (c, k) ∉ [(68, 10)]) : pI_X12_cut_68 n I A J t c k = I c k := ((fr_lp_X12_cut_68_7_c0 (fr_subp rfl h) _ _ _ _ _).trans (fr_qI2_X12_cut_68 (fr_subp rfl h)))
theorem fr_pA_X12_cut_68 {n : Nat} {I : Nat → Nat → Int32} {A : Nat → Nat → Int32} {J : Nat → Nat → Int64} {t : Bool × Bool} {c : Nat} (h : c ∉ [71, 72, 73]) : pA_X12_cut_68 n I A J t c = A c := (fr_lp_X12_cut_68_7_c1 (fr_subc rfl h) _ _ _ _ _)
theorem fr_pJ_X12_cut_68 {n : Nat} {I : Nat → Nat → Int32} {A : Nat → Nat → Int32} {J : Nat → Nat → Int64} {t : Bool × Bool} {c : Nat} (h : c ∉ [74]) : pJ_X12_cut_68 n I A J t c = J c := (fr_lp_X12_cut_68_7_c2 (fr_subc rfl h) _ _ _ _ _)
theorem fr_qI2_X12_expression_68 {n : Nat} {I : Nat → Nat → Int32} {A : Nat → Nat → Int32} {J : Nat → Nat → Int64} {t : Bool × Bool} {c k : Nat} (h : (c, k) ∉ [(68, 34)]) : qI2_X12_expression_68 n I A J t c k = I c k := (fr_up h (List.mem_of_getElem? (i := 0) rfl) rfl)
theorem fr_qIm142_X12_expression_68 {n : Nat} {I : Nat → Nat → Int32} {A : Nat → Nat → Int32} {J : Nat → Nat → Int64} {t : Bool × Bool} {I12 : Nat → Nat → Int32} {A12 : Nat → Nat → Int32} {v12_2 : Int32} {c k : Nat} (h : (c, k) ∉ [(68, 13), (68, 14)]) : qIm142_X12_expression_68 n I A J t I12 A12 v12_2 c k = I12 c k := (fr_itep (fr_pI_X12_fail_68 (fr_subp rfl h)) rfl)
theorem fr_qIm138_X12_expression_68 {n : Nat} {I : Nat → Nat → Int32} {A : Nat → Nat → Int32} {J : Nat → Nat → Int64} {t : Bool × Bool} {I12 : Nat → Nat → Int32} {A12 : Nat → Nat → Int32} {v12_2 : Int32} {c k : Nat} (h : (c, k) ∉ [(68, 13), (68, 14)]) : qIm138_X12_expression_68 n I A J t I12 A12 v12_2 c k = I12 c k := (fr_itep (fr_qIm142_X12_expression_68 (fr_subp rfl h)) rfl)
theorem fr_qIm159_X12_expression_68 {n : Nat} {I : Nat → Nat → Int32} {A : Nat → Nat → Int32} {J : Nat → Nat → Int64} {t : Bool × Bool} {I12 : Nat → Nat → Int32} {A12 : Nat → Nat → Int32} {v12_2 : Int32} {c k : Nat} (h : (c, k) ∉ [(68, 13), (68, 14), (68, 30)]) : qIm159_X12_expression_68 n I A J t I12 A12 v12_2 c k = I12 c k := (fr_itep ((fr_pI_X12_emit_68 (fr_subp rfl h)).trans (fr_qIm138_X12_expression_68 (fr_subp rfl h))) ((fr_pI_X12_emit_68 (fr_subp rfl h)).trans (fr_qIm138_X12_expression_68 (fr_subp rfl h))))
theorem fr_qAm159_X12_expression_68 {n : Nat} {I : Nat → Nat → Int32} {A : Nat → Nat → Int32} {J : Nat → Nat → Int64} {t : Bool × Bool} {I12 : Nat → Nat → Int32} {A12 : Nat → Nat → Int32} {v12_2 : Int32} {c : Nat} (h : c ∉ [86, 87]) : qAm159_X12_expression_68 n I A J t I12 A12 v12_2 c = A12 c := (fr_itec (fr_pA_X12_emit_68 (fr_subc rfl h)) (fr_pA_X12_emit_68 (fr_subc rfl h)))
theorem fr_qI229_X12_expression_68 {n : Nat} {I : Nat → Nat → Int32} {A : Nat → Nat → Int32} {J : Nat → Nat → Int64} {t : Bool × Bool} {I12 : Nat → Nat → Int32} {A12 : Nat → Nat → Int32} {v12_2 : Int32} {I200 : Nat → Nat → Int32} {A200 : Nat → Nat → Int32} {c k : Nat} (h : (c, k) ∉ [(68, 30), (68, 34)]) : qI229_X12_expression_68 n I A J t I12 A12 v12_2 I200 A200 c k = I200 c k := (fr_up h (List.mem_of_getElem? (i := 1) rfl) (fr_pI_X12_comesOut_68 (fr_subp rfl h)))
theorem fr_qI239_X12_expression_68 {n : Nat} {I : Nat → Nat → Int32} {A : Nat → Nat → Int32} {J : Nat → Nat → Int64} {t : Bool × Bool} {I12 : Nat → Nat → Int32} {A12 : Nat → Nat → Int32} {v12_2 : Int32} {I200 : Nat → Nat → Int32} {A200 : Nat → Nat → Int32} {c k : Nat} (h : (c, k) ∉ [(68, 12), (68, 30), (68, 34)]) : qI239_X12_expression_68 n I A J t I12 A12 v12_2 I200 A200 c k = I200 c k := (fr_up h (List.mem_of_getElem? (i := 0) rfl) (fr_qI229_X12_expression_68 (fr_subp rfl h)))
theorem fr_lp_X12_expression_68_200_c0 {n : Nat} {I : Nat → Nat → Int32} {A : Nat → Nat → Int32} {J : Nat → Nat → Int64} {t : Bool × Bool} {I12 : Nat → Nat → Int32} {A12 : Nat → Nat → Int32} {v12_2 : Int32} {c k : Nat} (h : (c, k) ∉ [(68, 11), (68, 12), (68, 13), (68, 14), (68, 30), (68, 34)]) : ∀ (f : Nat) (I200 : Nat → Nat → Int32) (A200 : Nat → Nat → Int32), (lp_X12_expression_68_200 n I A J t I12 A12 v12_2 f I200 A200).1 c k = I200 c k := by
  intro f
  induction f with
  | zero => intro _ _; rfl
  | succ f ih =>
    intro I200 A200
    unfold lp_X12_expression_68_200
    split
    · exact rfl
    · split
      · exact rfl
      · exact (ih _ _).trans ((fr_pI_X12_next_68 (fr_subp rfl h)).trans (fr_qI239_X12_expression_68 (fr_subp rfl h)))
theorem fr_lp_X12_expression_68_200_c1 {n : Nat} {I : Nat → Nat → Int32} {A : Nat → Nat → Int32} {J : Nat → Nat → Int64} {t : Bool × Bool} {I12 : Nat → Nat → Int32} {A12 : Nat → Nat → Int32} {v12_2 : Int32} {c : Nat} (h : c ∉ [86, 87]) : ∀ (f : Nat) (I200 : Nat → Nat → Int32) (A200 : Nat → Nat → Int32), (lp_X12_expression_68_200 n I A J t I12 A12 v12_2 f I200 A200).2 c = A200 c := by
  intro f
  induction f with
  | zero => intro _ _; rfl
  | succ f ih =>
    intro I200 A200
    unfold lp_X12_expression_68_200
    split
    · exact rfl
    · split
      · exact rfl
      · exact (ih _ _).trans (fr_pA_X12_comesOut_68 (fr_subc rfl h))
theorem fr_qIw200_X12_expression_68 {n : Nat} {I : Nat → Nat → Int32} {A : Nat → Nat → Int32} {J : Nat → Nat → Int64} {t : Bool × Bool} {I12 : Nat → Nat → Int32} {A12 : Nat → Nat → Int32} {v12_2 : Int32} {c k : Nat} (h : (c, k) ∉ [(68, 11), (68, 12), (68, 13), (68, 14), (68, 30), (68, 34)]) : qIw200_X12_expression_68 n I A J t I12 A12 v12_2 c k = I12 c k := ((fr_lp_X12_expression_68_200_c0 (fr_subp rfl h) _ _ _).trans ((fr_pI_X12_next_68 (fr_subp rfl h)).trans (fr_qIm159_X12_expression_68 (fr_subp rfl h))))
theorem fr_qAw200_X12_expression_68 {n : Nat} {I : Nat → Nat → Int32} {A : Nat → Nat → Int32} {J : Nat → Nat → Int64} {t : Bool × Bool} {I12 : Nat → Nat → Int32} {A12 : Nat → Nat → Int32} {v12_2 : Int32} {c : Nat} (h : c ∉ [86, 87]) : qAw200_X12_expression_68 n I A J t I12 A12 v12_2 c = A12 c := ((fr_lp_X12_expression_68_200_c1 (fr_subc rfl h) _ _ _).trans (fr_qAm159_X12_expression_68 (fr_subc rfl h)))
theorem fr_qA342_X12_expression_68 {n : Nat} {I : Nat → Nat → Int32} {A : Nat → Nat → Int32} {J : Nat → Nat → Int64} {t : Bool × Bool} {I12 : Nat → Nat → Int32} {A12 : Nat → Nat → Int32} {v12_2 : Int32} {c : Nat} (h : c ∉ [86, 87, 88]) : qA342_X12_expression_68 n I A J t I12 A12 v12_2 c = A12 c := (fr_uc h (List.mem_of_getElem? (i := 2) rfl) ((fr_pA_X12_comesOut_68 (fr_subc rfl h)).trans (fr_qAw200_X12_expression_68 (fr_subc rfl h))))
theorem fr_qI350_X12_expression_68 {n : Nat} {I : Nat → Nat → Int32} {A : Nat → Nat → Int32} {J : Nat → Nat → Int64} {t : Bool × Bool} {I12 : Nat → Nat → Int32} {A12 : Nat → Nat → Int32} {v12_2 : Int32} {c k : Nat} (h : (c, k) ∉ [(68, 11), (68, 12), (68, 13), (68, 14), (68, 30), (68, 34)]) : qI350_X12_expression_68 n I A J t I12 A12 v12_2 c k = I12 c k := (fr_up h (List.mem_of_getElem? (i := 5) rfl) ((fr_pI_X12_comesOut_68 (fr_subp rfl h)).trans (fr_qIw200_X12_expression_68 (fr_subp rfl h))))
theorem fr_qIm291_X12_expression_68 {n : Nat} {I : Nat → Nat → Int32} {A : Nat → Nat → Int32} {J : Nat → Nat → Int64} {t : Bool × Bool} {I12 : Nat → Nat → Int32} {A12 : Nat → Nat → Int32} {v12_2 : Int32} {c k : Nat} (h : (c, k) ∉ [(68, 11), (68, 12), (68, 13), (68, 14), (68, 30), (68, 34)]) : qIm291_X12_expression_68 n I A J t I12 A12 v12_2 c k = I12 c k := (fr_itep (fr_qIw200_X12_expression_68 (fr_subp rfl h)) ((fr_pI_X12_fail_68 (fr_subp rfl h)).trans (fr_qIw200_X12_expression_68 (fr_subp rfl h))))
theorem fr_qIm38_X12_expression_68 {n : Nat} {I : Nat → Nat → Int32} {A : Nat → Nat → Int32} {J : Nat → Nat → Int64} {t : Bool × Bool} {I12 : Nat → Nat → Int32} {A12 : Nat → Nat → Int32} {v12_2 : Int32} {c k : Nat} (h : (c, k) ∉ [(68, 13), (68, 14)]) : qIm38_X12_expression_68 n I A J t I12 A12 v12_2 c k = I12 c k := (fr_itep (fr_pI_X12_fail_68 (fr_subp rfl h)) rfl)
theorem fr_qI61_X12_expression_68 {n : Nat} {I : Nat → Nat → Int32} {A : Nat → Nat → Int32} {J : Nat → Nat → Int64} {t : Bool × Bool} {I12 : Nat → Nat → Int32} {A12 : Nat → Nat → Int32} {v12_2 : Int32} {c k : Nat} (h : (c, k) ∉ [(68, 12), (68, 13), (68, 14)]) : qI61_X12_expression_68 n I A J t I12 A12 v12_2 c k = I12 c k := (fr_up h (List.mem_of_getElem? (i := 0) rfl) (fr_qIm38_X12_expression_68 (fr_subp rfl h)))
theorem fr_qA78_X12_expression_68 {n : Nat} {I : Nat → Nat → Int32} {A : Nat → Nat → Int32} {J : Nat → Nat → Int64} {t : Bool × Bool} {I12 : Nat → Nat → Int32} {A12 : Nat → Nat → Int32} {v12_2 : Int32} {c : Nat} (h : c ∉ [88]) : qA78_X12_expression_68 n I A J t I12 A12 v12_2 c = A12 c := (fr_uc h (List.mem_of_getElem? (i := 0) rfl) rfl)
theorem fr_qI86_X12_expression_68 {n : Nat} {I : Nat → Nat → Int32} {A : Nat → Nat → Int32} {J : Nat → Nat → Int64} {t : Bool × Bool} {I12 : Nat → Nat → Int32} {A12 : Nat → Nat → Int32} {v12_2 : Int32} {c k : Nat} (h : (c, k) ∉ [(68, 11), (68, 12), (68, 13), (68, 14), (68, 34)]) : qI86_X12_expression_68 n I A J t I12 A12 v12_2 c k = I12 c k := (fr_up h (List.mem_of_getElem? (i := 4) rfl) ((fr_pI_X12_next_68 (fr_subp rfl h)).trans (fr_qI61_X12_expression_68 (fr_subp rfl h))))
theorem fr_lp_X12_expression_68_12_c0 {n : Nat} {I : Nat → Nat → Int32} {A : Nat → Nat → Int32} {J : Nat → Nat → Int64} {t : Bool × Bool} {c k : Nat} (h : (c, k) ∉ [(68, 11), (68, 12), (68, 13), (68, 14), (68, 30), (68, 34)]) : ∀ (f : Nat) (I12 : Nat → Nat → Int32) (A12 : Nat → Nat → Int32) (v12_2 : Int32), (lp_X12_expression_68_12 n I A J t f I12 A12 v12_2).1 c k = I12 c k := by
  intro f
  induction f with
  | zero => intro _ _ _; rfl
  | succ f ih =>
    intro I12 A12 v12_2
    unfold lp_X12_expression_68_12
    split
    · exact rfl
    · split
      · split
        · split
          · split
            · (try dsimp only); exact ((fr_pI_X12_comesOut_68 (fr_subp rfl h)).trans (fr_qIm291_X12_expression_68 (fr_subp rfl h)))
            · exact (ih _ _ _).trans ((fr_pI_X12_next_68 (fr_subp rfl h)).trans (fr_qI350_X12_expression_68 (fr_subp rfl h)))
          · (try dsimp only); exact (fr_qIm138_X12_expression_68 (fr_subp rfl h))
        · split
          · exact (ih _ _ _).trans (fr_qI86_X12_expression_68 (fr_subp rfl h))
          · (try dsimp only); exact (fr_qIm38_X12_expression_68 (fr_subp rfl h))
      · exact rfl
theorem fr_lp_X12_expression_68_12_c1 {n : Nat} {I : Nat → Nat → Int32} {A : Nat → Nat → Int32} {J : Nat → Nat → Int64} {t : Bool × Bool} {c : Nat} (h : c ∉ [86, 87, 88]) : ∀ (f : Nat) (I12 : Nat → Nat → Int32) (A12 : Nat → Nat → Int32) (v12_2 : Int32), (lp_X12_expression_68_12 n I A J t f I12 A12 v12_2).2 c = A12 c := by
  intro f
  induction f with
  | zero => intro _ _ _; rfl
  | succ f ih =>
    intro I12 A12 v12_2
    unfold lp_X12_expression_68_12
    split
    · exact rfl
    · split
      · split
        · split
          · split
            · (try dsimp only); exact ((fr_pA_X12_comesOut_68 (fr_subc rfl h)).trans (fr_qAw200_X12_expression_68 (fr_subc rfl h)))
            · exact (ih _ _ _).trans (fr_qA342_X12_expression_68 (fr_subc rfl h))
          · exact rfl
        · split
          · exact (ih _ _ _).trans (fr_qA78_X12_expression_68 (fr_subc rfl h))
          · exact rfl
      · exact rfl
theorem fr_pI_X12_expression_68 {n : Nat} {I : Nat → Nat → Int32} {A : Nat → Nat → Int32} {J : Nat → Nat → Int64} {t : Bool × Bool} {c k : Nat} (h : (c, k) ∉ [(68, 11), (68, 12), (68, 13), (68, 14), (68, 30), (68, 34)]) : pI_X12_expression_68 n I A J t c k = I c k := ((fr_lp_X12_expression_68_12_c0 (fr_subp rfl h) _ _ _ _).trans (fr_qI2_X12_expression_68 (fr_subp rfl h)))
theorem fr_pA_X12_expression_68 {n : Nat} {I : Nat → Nat → Int32} {A : Nat → Nat → Int32} {J : Nat → Nat → Int64} {t : Bool × Bool} {c : Nat} (h : c ∉ [86, 87, 88]) : pA_X12_expression_68 n I A J t c = A c := (fr_lp_X12_expression_68_12_c1 (fr_subc rfl h) _ _ _ _)
theorem fr_qIm46_X12_relation_68 {n : Nat} {I : Nat → Nat → Int32} {A : Nat → Nat → Int32} {J : Nat → Nat → Int64} {t : Bool × Bool} {c k : Nat} (h : (c, k) ∉ [(68, 11), (68, 12), (68, 13), (68, 14), (68, 30), (68, 34)]) : qIm46_X12_relation_68 n I A J t c k = I c k := (fr_itep (fr_pI_X12_expression_68 (fr_subp rfl h)) ((fr_pI_X12_fail_68 (fr_subp rfl h)).trans (fr_pI_X12_expression_68 (fr_subp rfl h))))
theorem fr_qIm41_X12_relation_68 {n : Nat} {I : Nat → Nat → Int32} {A : Nat → Nat → Int32} {J : Nat → Nat → Int64} {t : Bool × Bool} {c k : Nat} (h : (c, k) ∉ [(68, 11), (68, 12), (68, 13), (68, 14), (68, 30), (68, 34)]) : qIm41_X12_relation_68 n I A J t c k = I c k := (fr_itep ((fr_pI_X12_fail_68 (fr_subp rfl h)).trans (fr_pI_X12_expression_68 (fr_subp rfl h))) (fr_qIm46_X12_relation_68 (fr_subp rfl h)))
theorem fr_qIm37_X12_relation_68 {n : Nat} {I : Nat → Nat → Int32} {A : Nat → Nat → Int32} {J : Nat → Nat → Int64} {t : Bool × Bool} {c k : Nat} (h : (c, k) ∉ [(68, 11), (68, 12), (68, 13), (68, 14), (68, 30), (68, 34)]) : qIm37_X12_relation_68 n I A J t c k = I c k := (fr_itep (fr_qIm41_X12_relation_68 (fr_subp rfl h)) (fr_pI_X12_expression_68 (fr_subp rfl h)))
theorem fr_qA102_X12_relation_68 {n : Nat} {I : Nat → Nat → Int32} {A : Nat → Nat → Int32} {J : Nat → Nat → Int64} {t : Bool × Bool} {c : Nat} (h : c ∉ [82, 86, 87, 88]) : qA102_X12_relation_68 n I A J t c = A c := (fr_uc h (List.mem_of_getElem? (i := 0) rfl) ((fr_pA_X12_expression_68 (fr_subc rfl h)).trans (fr_pA_X12_expression_68 (fr_subc rfl h))))
theorem fr_qA110_X12_relation_68 {n : Nat} {I : Nat → Nat → Int32} {A : Nat → Nat → Int32} {J : Nat → Nat → Int64} {t : Bool × Bool} {c : Nat} (h : c ∉ [82, 83, 86, 87, 88]) : qA110_X12_relation_68 n I A J t c = A c := (fr_uc h (List.mem_of_getElem? (i := 1) rfl) (fr_qA102_X12_relation_68 (fr_subc rfl h)))
theorem fr_qA118_X12_relation_68 {n : Nat} {I : Nat → Nat → Int32} {A : Nat → Nat → Int32} {J : Nat → Nat → Int64} {t : Bool × Bool} {c : Nat} (h : c ∉ [82, 83, 84, 86, 87, 88]) : qA118_X12_relation_68 n I A J t c = A c := (fr_uc h (List.mem_of_getElem? (i := 2) rfl) (fr_qA110_X12_relation_68 (fr_subc rfl h)))
theorem fr_qA129_X12_relation_68 {n : Nat} {I : Nat → Nat → Int32} {A : Nat → Nat → Int32} {J : Nat → Nat → Int64} {t : Bool × Bool} {c : Nat} (h : c ∉ [82, 83, 84, 85, 86, 87, 88]) : qA129_X12_relation_68 n I A J t c = A c := (fr_uc h (List.mem_of_getElem? (i := 3) rfl) (fr_qA118_X12_relation_68 (fr_subc rfl h)))
theorem fr_qA142_X12_relation_68 {n : Nat} {I : Nat → Nat → Int32} {A : Nat → Nat → Int32} {J : Nat → Nat → Int64} {t : Bool × Bool} {c : Nat} (h : c ∉ [81, 82, 83, 84, 85, 86, 87, 88]) : qA142_X12_relation_68 n I A J t c = A c := (fr_uc h (List.mem_of_getElem? (i := 0) rfl) (fr_qA129_X12_relation_68 (fr_subc rfl h)))
theorem fr_pI_X12_relation_68 {n : Nat} {I : Nat → Nat → Int32} {A : Nat → Nat → Int32} {J : Nat → Nat → Int64} {t : Bool × Bool} {c k : Nat} (h : (c, k) ∉ [(68, 11), (68, 12), (68, 13), (68, 14), (68, 30), (68, 34)]) : pI_X12_relation_68 n I A J t c k = I c k := ((fr_pI_X12_expression_68 (fr_subp rfl h)).trans ((fr_pI_X12_next_68 (fr_subp rfl h)).trans (fr_qIm37_X12_relation_68 (fr_subp rfl h))))
theorem fr_pA_X12_relation_68 {n : Nat} {I : Nat → Nat → Int32} {A : Nat → Nat → Int32} {J : Nat → Nat → Int64} {t : Bool × Bool} {c : Nat} (h : c ∉ [81, 82, 83, 84, 85, 86, 87, 88]) : pA_X12_relation_68 n I A J t c = A c := (fr_itec (fr_qA142_X12_relation_68 (fr_subc rfl h)) ((fr_pA_X12_expression_68 (fr_subc rfl h)).trans (fr_pA_X12_expression_68 (fr_subc rfl h))))
theorem fr_qIm37_X12_tellRule_68 {n : Nat} {I : Nat → Nat → Int32} {A : Nat → Nat → Int32} {J : Nat → Nat → Int64} {t : Bool × Bool} {c k : Nat} (h : (c, k) ∉ [(68, 13), (68, 14)]) : qIm37_X12_tellRule_68 n I A J t c k = I c k := (fr_itep (fr_pI_X12_fail_68 (fr_subp rfl h)) rfl)
theorem fr_qIm15_X12_tellRule_68 {n : Nat} {I : Nat → Nat → Int32} {A : Nat → Nat → Int32} {J : Nat → Nat → Int64} {t : Bool × Bool} {c k : Nat} (h : (c, k) ∉ [(68, 13), (68, 14)]) : qIm15_X12_tellRule_68 n I A J t c k = I c k := (fr_itep (fr_pI_X12_fail_68 (fr_subp rfl h)) (fr_qIm37_X12_tellRule_68 (fr_subp rfl h)))
theorem fr_qIm6_X12_tellRule_68 {n : Nat} {I : Nat → Nat → Int32} {A : Nat → Nat → Int32} {J : Nat → Nat → Int64} {t : Bool × Bool} {c k : Nat} (h : (c, k) ∉ [(68, 13), (68, 14)]) : qIm6_X12_tellRule_68 n I A J t c k = I c k := (fr_itep (fr_qIm15_X12_tellRule_68 (fr_subp rfl h)) (fr_qIm37_X12_tellRule_68 (fr_subp rfl h)))
theorem fr_qA82_X12_tellRule_68 {n : Nat} {I : Nat → Nat → Int32} {A : Nat → Nat → Int32} {J : Nat → Nat → Int64} {t : Bool × Bool} {c : Nat} (h : c ∉ [77]) : qA82_X12_tellRule_68 n I A J t c = A c := (fr_uc h (List.mem_of_getElem? (i := 0) rfl) rfl)
theorem fr_qA99_X12_tellRule_68 {n : Nat} {I : Nat → Nat → Int32} {A : Nat → Nat → Int32} {J : Nat → Nat → Int64} {t : Bool × Bool} {c : Nat} (h : c ∉ [77, 78]) : qA99_X12_tellRule_68 n I A J t c = A c := (fr_uc h (List.mem_of_getElem? (i := 1) rfl) (fr_qA82_X12_tellRule_68 (fr_subc rfl h)))
theorem fr_qA106_X12_tellRule_68 {n : Nat} {I : Nat → Nat → Int32} {A : Nat → Nat → Int32} {J : Nat → Nat → Int64} {t : Bool × Bool} {c : Nat} (h : c ∉ [77, 78, 79]) : qA106_X12_tellRule_68 n I A J t c = A c := (fr_uc h (List.mem_of_getElem? (i := 2) rfl) (fr_qA99_X12_tellRule_68 (fr_subc rfl h)))
theorem fr_lp_X12_tellRule_68_231_c0 {n : Nat} {I : Nat → Nat → Int32} {A : Nat → Nat → Int32} {J : Nat → Nat → Int64} {t : Bool × Bool} {c k : Nat} (h : (c, k) ∉ [(68, 11), (68, 12), (68, 13), (68, 14), (68, 30), (68, 34)]) : ∀ (f : Nat) (I231 : Nat → Nat → Int32) (A231 : Nat → Nat → Int32), (lp_X12_tellRule_68_231 n I A J t f I231 A231).1 c k = I231 c k := by
  intro f
  induction f with
  | zero => intro _ _; rfl
  | succ f ih =>
    intro I231 A231
    unfold lp_X12_tellRule_68_231
    split
    · exact rfl
    · exact (ih _ _).trans ((fr_pI_X12_relation_68 (fr_subp rfl h)).trans (fr_pI_X12_next_68 (fr_subp rfl h)))
theorem fr_lp_X12_tellRule_68_231_c1 {n : Nat} {I : Nat → Nat → Int32} {A : Nat → Nat → Int32} {J : Nat → Nat → Int64} {t : Bool × Bool} {c : Nat} (h : c ∉ [81, 82, 83, 84, 85, 86, 87, 88]) : ∀ (f : Nat) (I231 : Nat → Nat → Int32) (A231 : Nat → Nat → Int32), (lp_X12_tellRule_68_231 n I A J t f I231 A231).2 c = A231 c := by
  intro f
  induction f with
  | zero => intro _ _; rfl
  | succ f ih =>
    intro I231 A231
    unfold lp_X12_tellRule_68_231
    split
    · exact rfl
    · exact (ih _ _).trans (fr_pA_X12_relation_68 (fr_subc rfl h))
theorem fr_qIw231_X12_tellRule_68 {n : Nat} {I : Nat → Nat → Int32} {A : Nat → Nat → Int32} {J : Nat → Nat → Int64} {t : Bool × Bool} {c k : Nat} (h : (c, k) ∉ [(68, 11), (68, 12), (68, 13), (68, 14), (68, 30), (68, 34)]) : qIw231_X12_tellRule_68 n I A J t c k = I c k := ((fr_lp_X12_tellRule_68_231_c0 (fr_subp rfl h) _ _ _).trans ((fr_pI_X12_relation_68 (fr_subp rfl h)).trans ((fr_pI_X12_next_68 (fr_subp rfl h)).trans ((fr_pI_X12_must_68 (fr_subp rfl h)).trans ((fr_pI_X12_next_68 (fr_subp rfl h)).trans (fr_qIm6_X12_tellRule_68 (fr_subp rfl h)))))))
theorem fr_qAw231_X12_tellRule_68 {n : Nat} {I : Nat → Nat → Int32} {A : Nat → Nat → Int32} {J : Nat → Nat → Int64} {t : Bool × Bool} {c : Nat} (h : c ∉ [77, 78, 79, 81, 82, 83, 84, 85, 86, 87, 88]) : qAw231_X12_tellRule_68 n I A J t c = A c := ((fr_lp_X12_tellRule_68_231_c1 (fr_subc rfl h) _ _ _).trans ((fr_pA_X12_relation_68 (fr_subc rfl h)).trans (fr_qA106_X12_tellRule_68 (fr_subc rfl h))))
theorem fr_qIm220_X12_tellRule_68 {n : Nat} {I : Nat → Nat → Int32} {A : Nat → Nat → Int32} {J : Nat → Nat → Int64} {t : Bool × Bool} {c k : Nat} (h : (c, k) ∉ [(68, 11), (68, 12), (68, 13), (68, 14), (68, 30), (68, 34)]) : qIm220_X12_tellRule_68 n I A J t c k = I c k := (fr_itep ((fr_pI_X12_must_68 (fr_subp rfl h)).trans ((fr_pI_X12_next_68 (fr_subp rfl h)).trans (fr_qIm6_X12_tellRule_68 (fr_subp rfl h)))) (fr_qIw231_X12_tellRule_68 (fr_subp rfl h)))
theorem fr_qAm220_X12_tellRule_68 {n : Nat} {I : Nat → Nat → Int32} {A : Nat → Nat → Int32} {J : Nat → Nat → Int64} {t : Bool × Bool} {c : Nat} (h : c ∉ [77, 78, 79, 81, 82, 83, 84, 85, 86, 87, 88]) : qAm220_X12_tellRule_68 n I A J t c = A c := (fr_itec (fr_qA106_X12_tellRule_68 (fr_subc rfl h)) (fr_qAw231_X12_tellRule_68 (fr_subc rfl h)))
theorem fr_qA276_X12_tellRule_68 {n : Nat} {I : Nat → Nat → Int32} {A : Nat → Nat → Int32} {J : Nat → Nat → Int64} {t : Bool × Bool} {c : Nat} (h : c ∉ [76, 77, 78, 79, 81, 82, 83, 84, 85, 86, 87, 88]) : qA276_X12_tellRule_68 n I A J t c = A c := (fr_uc h (List.mem_of_getElem? (i := 0) rfl) (fr_qAm220_X12_tellRule_68 (fr_subc rfl h)))
theorem fr_qA307_X12_tellRule_68 {n : Nat} {I : Nat → Nat → Int32} {A : Nat → Nat → Int32} {J : Nat → Nat → Int64} {t : Bool × Bool} {c : Nat} (h : c ∉ [76, 77, 78, 79, 80, 81, 82, 83, 84, 85, 86, 87, 88]) : qA307_X12_tellRule_68 n I A J t c = A c := (fr_uc h (List.mem_of_getElem? (i := 4) rfl) (fr_qA276_X12_tellRule_68 (fr_subc rfl h)))
theorem fr_qA192_X12_tellRule_68 {n : Nat} {I : Nat → Nat → Int32} {A : Nat → Nat → Int32} {J : Nat → Nat → Int64} {t : Bool × Bool} {c : Nat} (h : c ∉ [77, 78, 79]) : qA192_X12_tellRule_68 n I A J t c = A c := (fr_uc h (List.mem_of_getElem? (i := 2) rfl) (fr_qA106_X12_tellRule_68 (fr_subc rfl h)))
theorem fr_qIm205_X12_tellRule_68 {n : Nat} {I : Nat → Nat → Int32} {A : Nat → Nat → Int32} {J : Nat → Nat → Int64} {t : Bool × Bool} {c k : Nat} (h : (c, k) ∉ [(68, 11), (68, 13), (68, 14), (68, 15), (68, 16)]) : qIm205_X12_tellRule_68 n I A J t c k = I c k := (fr_itep ((fr_pI_X12_must_68 (fr_subp rfl h)).trans ((fr_pI_X12_next_68 (fr_subp rfl h)).trans ((fr_pI_X12_must_68 (fr_subp rfl h)).trans ((fr_pI_X12_next_68 (fr_subp rfl h)).trans (fr_qIm6_X12_tellRule_68 (fr_subp rfl h)))))) ((fr_pI_X12_wrong_68 (fr_subp rfl h)).trans ((fr_pI_X12_must_68 (fr_subp rfl h)).trans ((fr_pI_X12_next_68 (fr_subp rfl h)).trans ((fr_pI_X12_must_68 (fr_subp rfl h)).trans ((fr_pI_X12_next_68 (fr_subp rfl h)).trans (fr_qIm6_X12_tellRule_68 (fr_subp rfl h))))))))
theorem fr_lp_X12_tellRule_68_231_2_c0 {n : Nat} {I : Nat → Nat → Int32} {A : Nat → Nat → Int32} {J : Nat → Nat → Int64} {t : Bool × Bool} {c k : Nat} (h : (c, k) ∉ [(68, 11), (68, 12), (68, 13), (68, 14), (68, 30), (68, 34)]) : ∀ (f : Nat) (I231 : Nat → Nat → Int32) (A231 : Nat → Nat → Int32), (lp_X12_tellRule_68_231_2 n I A J t f I231 A231).1 c k = I231 c k := by
  intro f
  induction f with
  | zero => intro _ _; rfl
  | succ f ih =>
    intro I231 A231
    unfold lp_X12_tellRule_68_231_2
    split
    · exact rfl
    · exact (ih _ _).trans ((fr_pI_X12_relation_68 (fr_subp rfl h)).trans (fr_pI_X12_next_68 (fr_subp rfl h)))
theorem fr_lp_X12_tellRule_68_231_2_c1 {n : Nat} {I : Nat → Nat → Int32} {A : Nat → Nat → Int32} {J : Nat → Nat → Int64} {t : Bool × Bool} {c : Nat} (h : c ∉ [81, 82, 83, 84, 85, 86, 87, 88]) : ∀ (f : Nat) (I231 : Nat → Nat → Int32) (A231 : Nat → Nat → Int32), (lp_X12_tellRule_68_231_2 n I A J t f I231 A231).2 c = A231 c := by
  intro f
  induction f with
  | zero => intro _ _; rfl
  | succ f ih =>
    intro I231 A231
    unfold lp_X12_tellRule_68_231_2
    split
    · exact rfl
    · exact (ih _ _).trans (fr_pA_X12_relation_68 (fr_subc rfl h))
theorem fr_qIw231_1_X12_tellRule_68 {n : Nat} {I : Nat → Nat → Int32} {A : Nat → Nat → Int32} {J : Nat → Nat → Int64} {t : Bool × Bool} {c k : Nat} (h : (c, k) ∉ [(68, 11), (68, 12), (68, 13), (68, 14), (68, 15), (68, 16), (68, 30), (68, 34)]) : qIw231_1_X12_tellRule_68 n I A J t c k = I c k := ((fr_lp_X12_tellRule_68_231_2_c0 (fr_subp rfl h) _ _ _).trans ((fr_pI_X12_relation_68 (fr_subp rfl h)).trans ((fr_pI_X12_next_68 (fr_subp rfl h)).trans (fr_qIm205_X12_tellRule_68 (fr_subp rfl h)))))
theorem fr_qAw231_2_X12_tellRule_68 {n : Nat} {I : Nat → Nat → Int32} {A : Nat → Nat → Int32} {J : Nat → Nat → Int64} {t : Bool × Bool} {c : Nat} (h : c ∉ [77, 78, 79, 81, 82, 83, 84, 85, 86, 87, 88]) : qAw231_2_X12_tellRule_68 n I A J t c = A c := ((fr_lp_X12_tellRule_68_231_2_c1 (fr_subc rfl h) _ _ _).trans ((fr_pA_X12_relation_68 (fr_subc rfl h)).trans (fr_qA192_X12_tellRule_68 (fr_subc rfl h))))
theorem fr_qIm220_3_X12_tellRule_68 {n : Nat} {I : Nat → Nat → Int32} {A : Nat → Nat → Int32} {J : Nat → Nat → Int64} {t : Bool × Bool} {c k : Nat} (h : (c, k) ∉ [(68, 11), (68, 12), (68, 13), (68, 14), (68, 15), (68, 16), (68, 30), (68, 34)]) : qIm220_3_X12_tellRule_68 n I A J t c k = I c k := (fr_itep (fr_qIm205_X12_tellRule_68 (fr_subp rfl h)) (fr_qIw231_1_X12_tellRule_68 (fr_subp rfl h)))
theorem fr_qAm220_4_X12_tellRule_68 {n : Nat} {I : Nat → Nat → Int32} {A : Nat → Nat → Int32} {J : Nat → Nat → Int64} {t : Bool × Bool} {c : Nat} (h : c ∉ [77, 78, 79, 81, 82, 83, 84, 85, 86, 87, 88]) : qAm220_4_X12_tellRule_68 n I A J t c = A c := (fr_itec (fr_qA192_X12_tellRule_68 (fr_subc rfl h)) (fr_qAw231_2_X12_tellRule_68 (fr_subc rfl h)))
theorem fr_qA276_5_X12_tellRule_68 {n : Nat} {I : Nat → Nat → Int32} {A : Nat → Nat → Int32} {J : Nat → Nat → Int64} {t : Bool × Bool} {c : Nat} (h : c ∉ [76, 77, 78, 79, 81, 82, 83, 84, 85, 86, 87, 88]) : qA276_5_X12_tellRule_68 n I A J t c = A c := (fr_uc h (List.mem_of_getElem? (i := 0) rfl) (fr_qAm220_4_X12_tellRule_68 (fr_subc rfl h)))
theorem fr_qA307_6_X12_tellRule_68 {n : Nat} {I : Nat → Nat → Int32} {A : Nat → Nat → Int32} {J : Nat → Nat → Int64} {t : Bool × Bool} {c : Nat} (h : c ∉ [76, 77, 78, 79, 80, 81, 82, 83, 84, 85, 86, 87, 88]) : qA307_6_X12_tellRule_68 n I A J t c = A c := (fr_uc h (List.mem_of_getElem? (i := 4) rfl) (fr_qA276_5_X12_tellRule_68 (fr_subc rfl h)))
theorem fr_qA149_X12_tellRule_68 {n : Nat} {I : Nat → Nat → Int32} {A : Nat → Nat → Int32} {J : Nat → Nat → Int64} {t : Bool × Bool} {c : Nat} (h : c ∉ [77, 78, 79]) : qA149_X12_tellRule_68 n I A J t c = A c := (fr_uc h (List.mem_of_getElem? (i := 1) rfl) (fr_qA106_X12_tellRule_68 (fr_subc rfl h)))
theorem fr_lp_X12_tellRule_68_231_3_c0 {n : Nat} {I : Nat → Nat → Int32} {A : Nat → Nat → Int32} {J : Nat → Nat → Int64} {t : Bool × Bool} {c k : Nat} (h : (c, k) ∉ [(68, 11), (68, 12), (68, 13), (68, 14), (68, 30), (68, 34)]) : ∀ (f : Nat) (I231 : Nat → Nat → Int32) (A231 : Nat → Nat → Int32), (lp_X12_tellRule_68_231_3 n I A J t f I231 A231).1 c k = I231 c k := by
  intro f
  induction f with
  | zero => intro _ _; rfl
  | succ f ih =>
    intro I231 A231
    unfold lp_X12_tellRule_68_231_3
    split
    · exact rfl
    · exact (ih _ _).trans ((fr_pI_X12_relation_68 (fr_subp rfl h)).trans (fr_pI_X12_next_68 (fr_subp rfl h)))
theorem fr_lp_X12_tellRule_68_231_3_c1 {n : Nat} {I : Nat → Nat → Int32} {A : Nat → Nat → Int32} {J : Nat → Nat → Int64} {t : Bool × Bool} {c : Nat} (h : c ∉ [81, 82, 83, 84, 85, 86, 87, 88]) : ∀ (f : Nat) (I231 : Nat → Nat → Int32) (A231 : Nat → Nat → Int32), (lp_X12_tellRule_68_231_3 n I A J t f I231 A231).2 c = A231 c := by
  intro f
  induction f with
  | zero => intro _ _; rfl
  | succ f ih =>
    intro I231 A231
    unfold lp_X12_tellRule_68_231_3
    split
    · exact rfl
    · exact (ih _ _).trans (fr_pA_X12_relation_68 (fr_subc rfl h))
theorem fr_qIw231_7_X12_tellRule_68 {n : Nat} {I : Nat → Nat → Int32} {A : Nat → Nat → Int32} {J : Nat → Nat → Int64} {t : Bool × Bool} {c k : Nat} (h : (c, k) ∉ [(68, 11), (68, 12), (68, 13), (68, 14), (68, 30), (68, 34)]) : qIw231_7_X12_tellRule_68 n I A J t c k = I c k := ((fr_lp_X12_tellRule_68_231_3_c0 (fr_subp rfl h) _ _ _).trans ((fr_pI_X12_relation_68 (fr_subp rfl h)).trans ((fr_pI_X12_next_68 (fr_subp rfl h)).trans ((fr_pI_X12_must_68 (fr_subp rfl h)).trans ((fr_pI_X12_next_68 (fr_subp rfl h)).trans ((fr_pI_X12_must_68 (fr_subp rfl h)).trans ((fr_pI_X12_next_68 (fr_subp rfl h)).trans (fr_qIm6_X12_tellRule_68 (fr_subp rfl h)))))))))
theorem fr_qAw231_8_X12_tellRule_68 {n : Nat} {I : Nat → Nat → Int32} {A : Nat → Nat → Int32} {J : Nat → Nat → Int64} {t : Bool × Bool} {c : Nat} (h : c ∉ [77, 78, 79, 81, 82, 83, 84, 85, 86, 87, 88]) : qAw231_8_X12_tellRule_68 n I A J t c = A c := ((fr_lp_X12_tellRule_68_231_3_c1 (fr_subc rfl h) _ _ _).trans ((fr_pA_X12_relation_68 (fr_subc rfl h)).trans (fr_qA149_X12_tellRule_68 (fr_subc rfl h))))
theorem fr_qIm220_9_X12_tellRule_68 {n : Nat} {I : Nat → Nat → Int32} {A : Nat → Nat → Int32} {J : Nat → Nat → Int64} {t : Bool × Bool} {c k : Nat} (h : (c, k) ∉ [(68, 11), (68, 12), (68, 13), (68, 14), (68, 30), (68, 34)]) : qIm220_9_X12_tellRule_68 n I A J t c k = I c k := (fr_itep ((fr_pI_X12_must_68 (fr_subp rfl h)).trans ((fr_pI_X12_next_68 (fr_subp rfl h)).trans ((fr_pI_X12_must_68 (fr_subp rfl h)).trans ((fr_pI_X12_next_68 (fr_subp rfl h)).trans (fr_qIm6_X12_tellRule_68 (fr_subp rfl h)))))) (fr_qIw231_7_X12_tellRule_68 (fr_subp rfl h)))
theorem fr_qAm220_10_X12_tellRule_68 {n : Nat} {I : Nat → Nat → Int32} {A : Nat → Nat → Int32} {J : Nat → Nat → Int64} {t : Bool × Bool} {c : Nat} (h : c ∉ [77, 78, 79, 81, 82, 83, 84, 85, 86, 87, 88]) : qAm220_10_X12_tellRule_68 n I A J t c = A c := (fr_itec (fr_qA149_X12_tellRule_68 (fr_subc rfl h)) (fr_qAw231_8_X12_tellRule_68 (fr_subc rfl h)))
theorem fr_qA276_11_X12_tellRule_68 {n : Nat} {I : Nat → Nat → Int32} {A : Nat → Nat → Int32} {J : Nat → Nat → Int64} {t : Bool × Bool} {c : Nat} (h : c ∉ [76, 77, 78, 79, 81, 82, 83, 84, 85, 86, 87, 88]) : qA276_11_X12_tellRule_68 n I A J t c = A c := (fr_uc h (List.mem_of_getElem? (i := 0) rfl) (fr_qAm220_10_X12_tellRule_68 (fr_subc rfl h)))
theorem fr_qA307_12_X12_tellRule_68 {n : Nat} {I : Nat → Nat → Int32} {A : Nat → Nat → Int32} {J : Nat → Nat → Int64} {t : Bool × Bool} {c : Nat} (h : c ∉ [76, 77, 78, 79, 80, 81, 82, 83, 84, 85, 86, 87, 88]) : qA307_12_X12_tellRule_68 n I A J t c = A c := (fr_uc h (List.mem_of_getElem? (i := 4) rfl) (fr_qA276_11_X12_tellRule_68 (fr_subc rfl h)))
theorem fr_qA192_14_X12_tellRule_68 {n : Nat} {I : Nat → Nat → Int32} {A : Nat → Nat → Int32} {J : Nat → Nat → Int64} {t : Bool × Bool} {c : Nat} (h : c ∉ [77, 78, 79]) : qA192_14_X12_tellRule_68 n I A J t c = A c := (fr_uc h (List.mem_of_getElem? (i := 2) rfl) (fr_qA149_X12_tellRule_68 (fr_subc rfl h)))
theorem fr_qIm205_15_X12_tellRule_68 {n : Nat} {I : Nat → Nat → Int32} {A : Nat → Nat → Int32} {J : Nat → Nat → Int64} {t : Bool × Bool} {c k : Nat} (h : (c, k) ∉ [(68, 11), (68, 13), (68, 14), (68, 15), (68, 16)]) : qIm205_15_X12_tellRule_68 n I A J t c k = I c k := (fr_itep ((fr_pI_X12_must_68 (fr_subp rfl h)).trans ((fr_pI_X12_next_68 (fr_subp rfl h)).trans ((fr_pI_X12_must_68 (fr_subp rfl h)).trans ((fr_pI_X12_next_68 (fr_subp rfl h)).trans ((fr_pI_X12_must_68 (fr_subp rfl h)).trans ((fr_pI_X12_next_68 (fr_subp rfl h)).trans (fr_qIm6_X12_tellRule_68 (fr_subp rfl h)))))))) ((fr_pI_X12_wrong_68 (fr_subp rfl h)).trans ((fr_pI_X12_must_68 (fr_subp rfl h)).trans ((fr_pI_X12_next_68 (fr_subp rfl h)).trans ((fr_pI_X12_must_68 (fr_subp rfl h)).trans ((fr_pI_X12_next_68 (fr_subp rfl h)).trans ((fr_pI_X12_must_68 (fr_subp rfl h)).trans ((fr_pI_X12_next_68 (fr_subp rfl h)).trans (fr_qIm6_X12_tellRule_68 (fr_subp rfl h))))))))))
theorem fr_lp_X12_tellRule_68_231_4_c0 {n : Nat} {I : Nat → Nat → Int32} {A : Nat → Nat → Int32} {J : Nat → Nat → Int64} {t : Bool × Bool} {c k : Nat} (h : (c, k) ∉ [(68, 11), (68, 12), (68, 13), (68, 14), (68, 30), (68, 34)]) : ∀ (f : Nat) (I231 : Nat → Nat → Int32) (A231 : Nat → Nat → Int32), (lp_X12_tellRule_68_231_4 n I A J t f I231 A231).1 c k = I231 c k := by
  intro f
  induction f with
  | zero => intro _ _; rfl
  | succ f ih =>
    intro I231 A231
    unfold lp_X12_tellRule_68_231_4
    split
    · exact rfl
    · exact (ih _ _).trans ((fr_pI_X12_relation_68 (fr_subp rfl h)).trans (fr_pI_X12_next_68 (fr_subp rfl h)))
theorem fr_lp_X12_tellRule_68_231_4_c1 {n : Nat} {I : Nat → Nat → Int32} {A : Nat → Nat → Int32} {J : Nat → Nat → Int64} {t : Bool × Bool} {c : Nat} (h : c ∉ [81, 82, 83, 84, 85, 86, 87, 88]) : ∀ (f : Nat) (I231 : Nat → Nat → Int32) (A231 : Nat → Nat → Int32), (lp_X12_tellRule_68_231_4 n I A J t f I231 A231).2 c = A231 c := by
  intro f
  induction f with
  | zero => intro _ _; rfl
  | succ f ih =>
    intro I231 A231
    unfold lp_X12_tellRule_68_231_4
    split
    · exact rfl
    · exact (ih _ _).trans (fr_pA_X12_relation_68 (fr_subc rfl h))
theorem fr_qIw231_16_X12_tellRule_68 {n : Nat} {I : Nat → Nat → Int32} {A : Nat → Nat → Int32} {J : Nat → Nat → Int64} {t : Bool × Bool} {c k : Nat} (h : (c, k) ∉ [(68, 11), (68, 12), (68, 13), (68, 14), (68, 15), (68, 16), (68, 30), (68, 34)]) : qIw231_16_X12_tellRule_68 n I A J t c k = I c k := ((fr_lp_X12_tellRule_68_231_4_c0 (fr_subp rfl h) _ _ _).trans ((fr_pI_X12_relation_68 (fr_subp rfl h)).trans ((fr_pI_X12_next_68 (fr_subp rfl h)).trans (fr_qIm205_15_X12_tellRule_68 (fr_subp rfl h)))))
theorem fr_qAw231_17_X12_tellRule_68 {n : Nat} {I : Nat → Nat → Int32} {A : Nat → Nat → Int32} {J : Nat → Nat → Int64} {t : Bool × Bool} {c : Nat} (h : c ∉ [77, 78, 79, 81, 82, 83, 84, 85, 86, 87, 88]) : qAw231_17_X12_tellRule_68 n I A J t c = A c := ((fr_lp_X12_tellRule_68_231_4_c1 (fr_subc rfl h) _ _ _).trans ((fr_pA_X12_relation_68 (fr_subc rfl h)).trans (fr_qA192_14_X12_tellRule_68 (fr_subc rfl h))))
theorem fr_qIm220_18_X12_tellRule_68 {n : Nat} {I : Nat → Nat → Int32} {A : Nat → Nat → Int32} {J : Nat → Nat → Int64} {t : Bool × Bool} {c k : Nat} (h : (c, k) ∉ [(68, 11), (68, 12), (68, 13), (68, 14), (68, 15), (68, 16), (68, 30), (68, 34)]) : qIm220_18_X12_tellRule_68 n I A J t c k = I c k := (fr_itep (fr_qIm205_15_X12_tellRule_68 (fr_subp rfl h)) (fr_qIw231_16_X12_tellRule_68 (fr_subp rfl h)))
theorem fr_qAm220_19_X12_tellRule_68 {n : Nat} {I : Nat → Nat → Int32} {A : Nat → Nat → Int32} {J : Nat → Nat → Int64} {t : Bool × Bool} {c : Nat} (h : c ∉ [77, 78, 79, 81, 82, 83, 84, 85, 86, 87, 88]) : qAm220_19_X12_tellRule_68 n I A J t c = A c := (fr_itec (fr_qA192_14_X12_tellRule_68 (fr_subc rfl h)) (fr_qAw231_17_X12_tellRule_68 (fr_subc rfl h)))
theorem fr_qA276_20_X12_tellRule_68 {n : Nat} {I : Nat → Nat → Int32} {A : Nat → Nat → Int32} {J : Nat → Nat → Int64} {t : Bool × Bool} {c : Nat} (h : c ∉ [76, 77, 78, 79, 81, 82, 83, 84, 85, 86, 87, 88]) : qA276_20_X12_tellRule_68 n I A J t c = A c := (fr_uc h (List.mem_of_getElem? (i := 0) rfl) (fr_qAm220_19_X12_tellRule_68 (fr_subc rfl h)))
theorem fr_qA307_21_X12_tellRule_68 {n : Nat} {I : Nat → Nat → Int32} {A : Nat → Nat → Int32} {J : Nat → Nat → Int64} {t : Bool × Bool} {c : Nat} (h : c ∉ [76, 77, 78, 79, 80, 81, 82, 83, 84, 85, 86, 87, 88]) : qA307_21_X12_tellRule_68 n I A J t c = A c := (fr_uc h (List.mem_of_getElem? (i := 4) rfl) (fr_qA276_20_X12_tellRule_68 (fr_subc rfl h)))
theorem fr_pI_X12_tellRule_68 {n : Nat} {I : Nat → Nat → Int32} {A : Nat → Nat → Int32} {J : Nat → Nat → Int64} {t : Bool × Bool} {c k : Nat} (h : (c, k) ∉ [(68, 11), (68, 12), (68, 13), (68, 14), (68, 15), (68, 16), (68, 30), (68, 34)]) : pI_X12_tellRule_68 n I A J t c k = I c k := (fr_itep (fr_itep (fr_itep ((fr_pI_X12_must_68 (fr_subp rfl h)).trans (fr_qIm220_X12_tellRule_68 (fr_subp rfl h))) (fr_itep ((fr_pI_X12_must_68 (fr_subp rfl h)).trans (fr_qIm220_3_X12_tellRule_68 (fr_subp rfl h))) ((fr_pI_X12_must_68 (fr_subp rfl h)).trans ((fr_pI_X12_next_68 (fr_subp rfl h)).trans ((fr_pI_X12_must_68 (fr_subp rfl h)).trans ((fr_pI_X12_next_68 (fr_subp rfl h)).trans (fr_qIm6_X12_tellRule_68 (fr_subp rfl h)))))))) (fr_itep (fr_itep ((fr_pI_X12_must_68 (fr_subp rfl h)).trans (fr_qIm220_9_X12_tellRule_68 (fr_subp rfl h))) (fr_itep ((fr_pI_X12_must_68 (fr_subp rfl h)).trans (fr_qIm220_18_X12_tellRule_68 (fr_subp rfl h))) ((fr_pI_X12_must_68 (fr_subp rfl h)).trans ((fr_pI_X12_next_68 (fr_subp rfl h)).trans ((fr_pI_X12_must_68 (fr_subp rfl h)).trans ((fr_pI_X12_next_68 (fr_subp rfl h)).trans ((fr_pI_X12_must_68 (fr_subp rfl h)).trans ((fr_pI_X12_next_68 (fr_subp rfl h)).trans (fr_qIm6_X12_tellRule_68 (fr_subp rfl h)))))))))) ((fr_pI_X12_must_68 (fr_subp rfl h)).trans ((fr_pI_X12_next_68 (fr_subp rfl h)).trans ((fr_pI_X12_must_68 (fr_subp rfl h)).trans ((fr_pI_X12_next_68 (fr_subp rfl h)).trans (fr_qIm6_X12_tellRule_68 (fr_subp rfl h)))))))) (fr_qIm6_X12_tellRule_68 (fr_subp rfl h)))
theorem fr_pA_X12_tellRule_68 {n : Nat} {I : Nat → Nat → Int32} {A : Nat → Nat → Int32} {J : Nat → Nat → Int64} {t : Bool × Bool} {c : Nat} (h : c ∉ [76, 77, 78, 79, 80, 81, 82, 83, 84, 85, 86, 87, 88]) : pA_X12_tellRule_68 n I A J t c = A c := (fr_itec (fr_itec (fr_itec (fr_itec (fr_qA307_X12_tellRule_68 (fr_subc rfl h)) (fr_qAm220_X12_tellRule_68 (fr_subc rfl h))) (fr_itec (fr_itec (fr_qA307_6_X12_tellRule_68 (fr_subc rfl h)) (fr_qAm220_4_X12_tellRule_68 (fr_subc rfl h))) (fr_qA106_X12_tellRule_68 (fr_subc rfl h)))) (fr_itec (fr_itec (fr_itec (fr_qA307_12_X12_tellRule_68 (fr_subc rfl h)) (fr_qAm220_10_X12_tellRule_68 (fr_subc rfl h))) (fr_itec (fr_itec (fr_qA307_21_X12_tellRule_68 (fr_subc rfl h)) (fr_qAm220_19_X12_tellRule_68 (fr_subc rfl h))) (fr_qA149_X12_tellRule_68 (fr_subc rfl h)))) (fr_qA106_X12_tellRule_68 (fr_subc rfl h)))) rfl)
theorem fr_qI5_X12_read_68 {n : Nat} {I : Nat → Nat → Int32} {A : Nat → Nat → Int32} {J : Nat → Nat → Int64} {t : Bool × Bool} {c k : Nat} (h : (c, k) ∉ [(68, 4)]) : qI5_X12_read_68 n I A J t c k = I c k := (fr_up h (List.mem_of_getElem? (i := 0) rfl) rfl)
theorem fr_qA29_X12_read_68 {n : Nat} {I : Nat → Nat → Int32} {A : Nat → Nat → Int32} {J : Nat → Nat → Int64} {t : Bool × Bool} {A10 : Nat → Nat → Int32} {v10_1 : Int32} {c : Nat} (h : c ∉ [70]) : qA29_X12_read_68 n I A J t A10 v10_1 c = A10 c := (fr_uc h (List.mem_of_getElem? (i := 0) rfl) rfl)
theorem fr_lp_X12_read_68_10_c0 {n : Nat} {I : Nat → Nat → Int32} {A : Nat → Nat → Int32} {J : Nat → Nat → Int64} {t : Bool × Bool} {c : Nat} (h : c ∉ [70]) : ∀ (f : Nat) (A10 : Nat → Nat → Int32) (v10_1 : Int32), (lp_X12_read_68_10 n I A J t f A10 v10_1).1 c = A10 c := by
  intro f
  induction f with
  | zero => intro _ _; rfl
  | succ f ih =>
    intro A10 v10_1
    unfold lp_X12_read_68_10
    split
    · exact rfl
    · exact (ih _ _).trans (fr_qA29_X12_read_68 (fr_subc rfl h))
theorem fr_qAw10_X12_read_68 {n : Nat} {I : Nat → Nat → Int32} {A : Nat → Nat → Int32} {J : Nat → Nat → Int64} {t : Bool × Bool} {c : Nat} (h : c ∉ [70]) : qAw10_X12_read_68 n I A J t c = A c := (fr_lp_X12_read_68_10_c0 (fr_subc rfl h) _ _ _)
theorem fr_qI38_X12_read_68 {n : Nat} {I : Nat → Nat → Int32} {A : Nat → Nat → Int32} {J : Nat → Nat → Int64} {t : Bool × Bool} {c k : Nat} (h : (c, k) ∉ [(68, 2), (68, 4)]) : qI38_X12_read_68 n I A J t c k = I c k := (fr_up h (List.mem_of_getElem? (i := 0) rfl) (fr_qI5_X12_read_68 (fr_subp rfl h)))
theorem fr_qI47_X12_read_68 {n : Nat} {I : Nat → Nat → Int32} {A : Nat → Nat → Int32} {J : Nat → Nat → Int64} {t : Bool × Bool} {c k : Nat} (h : (c, k) ∉ [(68, 2), (68, 4), (68, 10), (68, 11)]) : qI47_X12_read_68 n I A J t c k = I c k := (fr_up h (List.mem_of_getElem? (i := 3) rfl) ((fr_pI_X12_cut_68 (fr_subp rfl h)).trans (fr_qI38_X12_read_68 (fr_subp rfl h))))
theorem fr_qI52_X12_read_68 {n : Nat} {I : Nat → Nat → Int32} {A : Nat → Nat → Int32} {J : Nat → Nat → Int64} {t : Bool × Bool} {c k : Nat} (h : (c, k) ∉ [(68, 2), (68, 4), (68, 10), (68, 11), (68, 12)]) : qI52_X12_read_68 n I A J t c k = I c k := (fr_up h (List.mem_of_getElem? (i := 4) rfl) (fr_qI47_X12_read_68 (fr_subp rfl h)))
theorem fr_qI57_X12_read_68 {n : Nat} {I : Nat → Nat → Int32} {A : Nat → Nat → Int32} {J : Nat → Nat → Int64} {t : Bool × Bool} {c k : Nat} (h : (c, k) ∉ [(68, 2), (68, 4), (68, 10), (68, 11), (68, 12), (68, 13)]) : qI57_X12_read_68 n I A J t c k = I c k := (fr_up h (List.mem_of_getElem? (i := 5) rfl) (fr_qI52_X12_read_68 (fr_subp rfl h)))
theorem fr_qI62_X12_read_68 {n : Nat} {I : Nat → Nat → Int32} {A : Nat → Nat → Int32} {J : Nat → Nat → Int64} {t : Bool × Bool} {c k : Nat} (h : (c, k) ∉ [(68, 2), (68, 4), (68, 10), (68, 11), (68, 12), (68, 13), (68, 15)]) : qI62_X12_read_68 n I A J t c k = I c k := (fr_up h (List.mem_of_getElem? (i := 6) rfl) (fr_qI57_X12_read_68 (fr_subp rfl h)))
theorem fr_qI72_X12_read_68 {n : Nat} {I : Nat → Nat → Int32} {A : Nat → Nat → Int32} {J : Nat → Nat → Int64} {t : Bool × Bool} {c k : Nat} (h : (c, k) ∉ [(68, 2), (68, 4), (68, 10), (68, 11), (68, 12), (68, 13), (68, 15), (68, 19)]) : qI72_X12_read_68 n I A J t c k = I c k := (fr_up h (List.mem_of_getElem? (i := 7) rfl) (fr_qI62_X12_read_68 (fr_subp rfl h)))
theorem fr_qA84_X12_read_68 {n : Nat} {I : Nat → Nat → Int32} {A : Nat → Nat → Int32} {J : Nat → Nat → Int64} {t : Bool × Bool} {c : Nat} (h : c ∉ [70, 71, 72, 73, 76]) : qA84_X12_read_68 n I A J t c = A c := (fr_uc h (List.mem_of_getElem? (i := 4) rfl) ((fr_pA_X12_cut_68 (fr_subc rfl h)).trans (fr_qAw10_X12_read_68 (fr_subc rfl h))))
theorem fr_qA94_X12_read_68 {n : Nat} {I : Nat → Nat → Int32} {A : Nat → Nat → Int32} {J : Nat → Nat → Int64} {t : Bool × Bool} {c : Nat} (h : c ∉ [70, 71, 72, 73, 76, 81]) : qA94_X12_read_68 n I A J t c = A c := (fr_uc h (List.mem_of_getElem? (i := 5) rfl) (fr_qA84_X12_read_68 (fr_subc rfl h)))
theorem fr_qI104_X12_read_68 {n : Nat} {I : Nat → Nat → Int32} {A : Nat → Nat → Int32} {J : Nat → Nat → Int64} {t : Bool × Bool} {c k : Nat} (h : (c, k) ∉ [(68, 2), (68, 4), (68, 10), (68, 11), (68, 12), (68, 13), (68, 15), (68, 19), (68, 30)]) : qI104_X12_read_68 n I A J t c k = I c k := (fr_up h (List.mem_of_getElem? (i := 8) rfl) (fr_qI72_X12_read_68 (fr_subp rfl h)))
theorem fr_qA119_X12_read_68 {n : Nat} {I : Nat → Nat → Int32} {A : Nat → Nat → Int32} {J : Nat → Nat → Int64} {t : Bool × Bool} {c : Nat} (h : c ∉ [70, 71, 72, 73, 76, 80, 81]) : qA119_X12_read_68 n I A J t c = A c := (fr_uc h (List.mem_of_getElem? (i := 5) rfl) (fr_qA94_X12_read_68 (fr_subc rfl h)))
theorem fr_lp_X12_read_68_120_c0 {n : Nat} {I : Nat → Nat → Int32} {A : Nat → Nat → Int32} {J : Nat → Nat → Int64} {t : Bool × Bool} {c k : Nat} (h : (c, k) ∉ [(68, 11), (68, 12), (68, 13), (68, 14), (68, 15), (68, 16), (68, 30), (68, 34)]) : ∀ (f : Nat) (I120 : Nat → Nat → Int32) (A120 : Nat → Nat → Int32), (lp_X12_read_68_120 n I A J t f I120 A120).1 c k = I120 c k := by
  intro f
  induction f with
  | zero => intro _ _; rfl
  | succ f ih =>
    intro I120 A120
    unfold lp_X12_read_68_120
    split
    · split
      · exact (ih _ _).trans (fr_pI_X12_tellRule_68 (fr_subp rfl h))
      · exact rfl
    · exact rfl
theorem fr_lp_X12_read_68_120_c1 {n : Nat} {I : Nat → Nat → Int32} {A : Nat → Nat → Int32} {J : Nat → Nat → Int64} {t : Bool × Bool} {c : Nat} (h : c ∉ [76, 77, 78, 79, 80, 81, 82, 83, 84, 85, 86, 87, 88]) : ∀ (f : Nat) (I120 : Nat → Nat → Int32) (A120 : Nat → Nat → Int32), (lp_X12_read_68_120 n I A J t f I120 A120).2 c = A120 c := by
  intro f
  induction f with
  | zero => intro _ _; rfl
  | succ f ih =>
    intro I120 A120
    unfold lp_X12_read_68_120
    split
    · split
      · exact (ih _ _).trans (fr_pA_X12_tellRule_68 (fr_subc rfl h))
      · exact rfl
    · exact rfl
theorem fr_qIw120_X12_read_68 {n : Nat} {I : Nat → Nat → Int32} {A : Nat → Nat → Int32} {J : Nat → Nat → Int64} {t : Bool × Bool} {c k : Nat} (h : (c, k) ∉ [(68, 2), (68, 4), (68, 10), (68, 11), (68, 12), (68, 13), (68, 14), (68, 15), (68, 16), (68, 19), (68, 30), (68, 34)]) : qIw120_X12_read_68 n I A J t c k = I c k := ((fr_lp_X12_read_68_120_c0 (fr_subp rfl h) _ _ _).trans (fr_qI104_X12_read_68 (fr_subp rfl h)))
theorem fr_qAw120_X12_read_68 {n : Nat} {I : Nat → Nat → Int32} {A : Nat → Nat → Int32} {J : Nat → Nat → Int64} {t : Bool × Bool} {c : Nat} (h : c ∉ [70, 71, 72, 73, 76, 77, 78, 79, 80, 81, 82, 83, 84, 85, 86, 87, 88]) : qAw120_X12_read_68 n I A J t c = A c := ((fr_lp_X12_read_68_120_c1 (fr_subc rfl h) _ _ _).trans (fr_qA119_X12_read_68 (fr_subc rfl h)))
theorem fr_qI172_X12_read_68 {n : Nat} {I : Nat → Nat → Int32} {A : Nat → Nat → Int32} {J : Nat → Nat → Int64} {t : Bool × Bool} {c k : Nat} (h : (c, k) ∉ [(68, 2), (68, 4), (68, 10), (68, 11), (68, 12), (68, 13), (68, 14), (68, 15), (68, 16), (68, 17), (68, 19), (68, 30), (68, 34)]) : qI172_X12_read_68 n I A J t c k = I c k := (fr_up h (List.mem_of_getElem? (i := 9) rfl) (fr_qIw120_X12_read_68 (fr_subp rfl h)))
theorem fr_qI204_X12_read_68 {n : Nat} {I : Nat → Nat → Int32} {A : Nat → Nat → Int32} {J : Nat → Nat → Int64} {t : Bool × Bool} {c k : Nat} (h : (c, k) ∉ [(68, 2), (68, 4), (68, 10), (68, 11), (68, 12), (68, 13), (68, 14), (68, 15), (68, 16), (68, 17), (68, 18), (68, 19), (68, 30), (68, 34)]) : qI204_X12_read_68 n I A J t c k = I c k := (fr_up h (List.mem_of_getElem? (i := 10) rfl) (fr_qI172_X12_read_68 (fr_subp rfl h)))
theorem fr_pI_X12_read_68 {n : Nat} {I : Nat → Nat → Int32} {A : Nat → Nat → Int32} {J : Nat → Nat → Int64} {t : Bool × Bool} {c k : Nat} (h : (c, k) ∉ [(68, 2), (68, 4), (68, 10), (68, 11), (68, 12), (68, 13), (68, 14), (68, 15), (68, 16), (68, 17), (68, 18), (68, 19), (68, 30), (68, 34)]) : pI_X12_read_68 n I A J t c k = I c k := (fr_itep (fr_itep (fr_qI204_X12_read_68 (fr_subp rfl h)) (fr_qI172_X12_read_68 (fr_subp rfl h))) (fr_qI172_X12_read_68 (fr_subp rfl h)))
theorem fr_pA_X12_read_68 {n : Nat} {I : Nat → Nat → Int32} {A : Nat → Nat → Int32} {J : Nat → Nat → Int64} {t : Bool × Bool} {c : Nat} (h : c ∉ [70, 71, 72, 73, 76, 77, 78, 79, 80, 81, 82, 83, 84, 85, 86, 87, 88]) : pA_X12_read_68 n I A J t c = A c := (fr_qAw120_X12_read_68 (fr_subc rfl h))
theorem fr_pJ_X12_read_68 {n : Nat} {I : Nat → Nat → Int32} {A : Nat → Nat → Int32} {J : Nat → Nat → Int64} {t : Bool × Bool} {c : Nat} (h : c ∉ [74]) : pJ_X12_read_68 n I A J t c = J c := (fr_pJ_X12_cut_68 (fr_subc rfl h))
theorem fr_qA137_X12_value_68 {n : Nat} {I : Nat → Nat → Int32} {A : Nat → Nat → Int32} {J : Nat → Nat → Int64} {t : Bool × Bool} {x1 : Int32} {x2 : Int32} {A5 : Nat → Nat → Int32} {v5_3 : Int32} {v5_4 : Int32} {c : Nat} (h : c ∉ [108]) : qA137_X12_value_68 n I A J t x1 x2 A5 v5_3 v5_4 c = A5 c := (fr_uc h (List.mem_of_getElem? (i := 0) rfl) rfl)
theorem fr_qA59_X12_value_68 {n : Nat} {I : Nat → Nat → Int32} {A : Nat → Nat → Int32} {J : Nat → Nat → Int64} {t : Bool × Bool} {x1 : Int32} {x2 : Int32} {A5 : Nat → Nat → Int32} {v5_3 : Int32} {v5_4 : Int32} {c : Nat} (h : c ∉ [108]) : qA59_X12_value_68 n I A J t x1 x2 A5 v5_3 v5_4 c = A5 c := (fr_uc h (List.mem_of_getElem? (i := 0) rfl) rfl)
theorem fr_qAm19_X12_value_68 {n : Nat} {I : Nat → Nat → Int32} {A : Nat → Nat → Int32} {J : Nat → Nat → Int64} {t : Bool × Bool} {x1 : Int32} {x2 : Int32} {A5 : Nat → Nat → Int32} {v5_3 : Int32} {v5_4 : Int32} {c : Nat} (h : c ∉ [108]) : qAm19_X12_value_68 n I A J t x1 x2 A5 v5_3 v5_4 c = A5 c := (fr_itec (fr_qA137_X12_value_68 (fr_subc rfl h)) (fr_qA59_X12_value_68 (fr_subc rfl h)))
theorem fr_lp_X12_value_68_5_c0 {n : Nat} {I : Nat → Nat → Int32} {A : Nat → Nat → Int32} {J : Nat → Nat → Int64} {t : Bool × Bool} {x1 : Int32} {x2 : Int32} {c : Nat} (h : c ∉ [108]) : ∀ (f : Nat) (A5 : Nat → Nat → Int32) (v5_3 : Int32) (v5_4 : Int32), (lp_X12_value_68_5 n I A J t x1 x2 f A5 v5_3 v5_4).1 c = A5 c := by
  intro f
  induction f with
  | zero => intro _ _ _; rfl
  | succ f ih =>
    intro A5 v5_3 v5_4
    unfold lp_X12_value_68_5
    split
    · exact rfl
    · exact (ih _ _ _).trans (fr_qAm19_X12_value_68 (fr_subc rfl h))
theorem fr_qAw5_X12_value_68 {n : Nat} {I : Nat → Nat → Int32} {A : Nat → Nat → Int32} {J : Nat → Nat → Int64} {t : Bool × Bool} {x1 : Int32} {x2 : Int32} {c : Nat} (h : c ∉ [108]) : qAw5_X12_value_68 n I A J t x1 x2 c = A c := (fr_lp_X12_value_68_5_c0 (fr_subc rfl h) _ _ _ _)
theorem fr_pA_X12_value_68 {n : Nat} {I : Nat → Nat → Int32} {A : Nat → Nat → Int32} {J : Nat → Nat → Int64} {t : Bool × Bool} {x1 : Int32} {x2 : Int32} {c : Nat} (h : c ∉ [108]) : pA_X12_value_68 n I A J t x1 x2 c = A c := (fr_qAw5_X12_value_68 (fr_subc rfl h))
theorem fr_lp_X12_holds_68_15_c1 {n : Nat} {I : Nat → Nat → Int32} {A : Nat → Nat → Int32} {J : Nat → Nat → Int64} {t : Bool × Bool} {x1 : Int32} {c : Nat} (h : c ∉ [108]) : ∀ (f : Nat) (A15 : Nat → Nat → Int32) (v15_2 : Int32), (lp_X12_holds_68_15 n I A J t x1 f A15 v15_2).2 c = A15 c := by
  intro f
  induction f with
  | zero => intro _ _; rfl
  | succ f ih =>
    intro A15 v15_2
    unfold lp_X12_holds_68_15
    split
    · exact rfl
    · split
      · (try dsimp only); exact ((fr_pA_X12_value_68 (fr_subc rfl h)).trans (fr_pA_X12_value_68 (fr_subc rfl h)))
      · exact (ih _ _).trans ((fr_pA_X12_value_68 (fr_subc rfl h)).trans (fr_pA_X12_value_68 (fr_subc rfl h)))
theorem fr_pA_X12_holds_68 {n : Nat} {I : Nat → Nat → Int32} {A : Nat → Nat → Int32} {J : Nat → Nat → Int64} {t : Bool × Bool} {x1 : Int32} {c : Nat} (h : c ∉ [108]) : pA_X12_holds_68 n I A J t x1 c = A c := (fr_lp_X12_holds_68_15_c1 (fr_subc rfl h) _ _ _)
theorem fr_qA6_X12_decides_68 {n : Nat} {I : Nat → Nat → Int32} {A : Nat → Nat → Int32} {J : Nat → Nat → Int64} {t : Bool × Bool} {x1 : Int32} {x2 : Int32} {x3 : Int32} {x4 : Int32} {x5 : Int32} {x6 : Int32} {c : Nat} (h : c ∉ [107]) : qA6_X12_decides_68 n I A J t x1 x2 x3 x4 x5 x6 c = A c := (fr_uc h (List.mem_of_getElem? (i := 0) rfl) rfl)
theorem fr_qA14_X12_decides_68 {n : Nat} {I : Nat → Nat → Int32} {A : Nat → Nat → Int32} {J : Nat → Nat → Int64} {t : Bool × Bool} {x1 : Int32} {x2 : Int32} {x3 : Int32} {x4 : Int32} {x5 : Int32} {x6 : Int32} {c : Nat} (h : c ∉ [107]) : qA14_X12_decides_68 n I A J t x1 x2 x3 x4 x5 x6 c = A c := (fr_uc h (List.mem_of_getElem? (i := 0) rfl) (fr_qA6_X12_decides_68 (fr_subc rfl h)))
theorem fr_qA22_X12_decides_68 {n : Nat} {I : Nat → Nat → Int32} {A : Nat → Nat → Int32} {J : Nat → Nat → Int64} {t : Bool × Bool} {x1 : Int32} {x2 : Int32} {x3 : Int32} {x4 : Int32} {x5 : Int32} {x6 : Int32} {c : Nat} (h : c ∉ [107]) : qA22_X12_decides_68 n I A J t x1 x2 x3 x4 x5 x6 c = A c := (fr_uc h (List.mem_of_getElem? (i := 0) rfl) (fr_qA14_X12_decides_68 (fr_subc rfl h)))
theorem fr_qA29_X12_decides_68 {n : Nat} {I : Nat → Nat → Int32} {A : Nat → Nat → Int32} {J : Nat → Nat → Int64} {t : Bool × Bool} {x1 : Int32} {x2 : Int32} {x3 : Int32} {x4 : Int32} {x5 : Int32} {x6 : Int32} {c : Nat} (h : c ∉ [107]) : qA29_X12_decides_68 n I A J t x1 x2 x3 x4 x5 x6 c = A c := (fr_uc h (List.mem_of_getElem? (i := 0) rfl) (fr_qA22_X12_decides_68 (fr_subc rfl h)))
theorem fr_qA42_X12_decides_68 {n : Nat} {I : Nat → Nat → Int32} {A : Nat → Nat → Int32} {J : Nat → Nat → Int64} {t : Bool × Bool} {x1 : Int32} {x2 : Int32} {x3 : Int32} {x4 : Int32} {x5 : Int32} {x6 : Int32} {c : Nat} (h : c ∉ [107]) : qA42_X12_decides_68 n I A J t x1 x2 x3 x4 x5 x6 c = A c := (fr_uc h (List.mem_of_getElem? (i := 0) rfl) (fr_qA29_X12_decides_68 (fr_subc rfl h)))
theorem fr_qA54_X12_decides_68 {n : Nat} {I : Nat → Nat → Int32} {A : Nat → Nat → Int32} {J : Nat → Nat → Int64} {t : Bool × Bool} {x1 : Int32} {x2 : Int32} {x3 : Int32} {x4 : Int32} {x5 : Int32} {x6 : Int32} {c : Nat} (h : c ∉ [107]) : qA54_X12_decides_68 n I A J t x1 x2 x3 x4 x5 x6 c = A c := (fr_uc h (List.mem_of_getElem? (i := 0) rfl) (fr_qA42_X12_decides_68 (fr_subc rfl h)))
theorem fr_qA68_X12_decides_68 {n : Nat} {I : Nat → Nat → Int32} {A : Nat → Nat → Int32} {J : Nat → Nat → Int64} {t : Bool × Bool} {x1 : Int32} {x2 : Int32} {x3 : Int32} {x4 : Int32} {x5 : Int32} {x6 : Int32} {c : Nat} (h : c ∉ [107]) : qA68_X12_decides_68 n I A J t x1 x2 x3 x4 x5 x6 c = A c := (fr_uc h (List.mem_of_getElem? (i := 0) rfl) (fr_qA54_X12_decides_68 (fr_subc rfl h)))
theorem fr_qA77_X12_decides_68 {n : Nat} {I : Nat → Nat → Int32} {A : Nat → Nat → Int32} {J : Nat → Nat → Int64} {t : Bool × Bool} {x1 : Int32} {x2 : Int32} {x3 : Int32} {x4 : Int32} {x5 : Int32} {x6 : Int32} {c : Nat} (h : c ∉ [107]) : qA77_X12_decides_68 n I A J t x1 x2 x3 x4 x5 x6 c = A c := (fr_uc h (List.mem_of_getElem? (i := 0) rfl) (fr_qA68_X12_decides_68 (fr_subc rfl h)))
theorem fr_lp_X12_decides_68_81_c1 {n : Nat} {I : Nat → Nat → Int32} {A : Nat → Nat → Int32} {J : Nat → Nat → Int64} {t : Bool × Bool} {x1 : Int32} {x2 : Int32} {x3 : Int32} {x4 : Int32} {x5 : Int32} {x6 : Int32} {c : Nat} (h : c ∉ [108]) : ∀ (f : Nat) (A81 : Nat → Nat → Int32) (v81_7 : Int32), (lp_X12_decides_68_81 n I A J t x1 x2 x3 x4 x5 x6 f A81 v81_7).2 c = A81 c := by
  intro f
  induction f with
  | zero => intro _ _; rfl
  | succ f ih =>
    intro A81 v81_7
    unfold lp_X12_decides_68_81
    split
    · exact rfl
    · split
      · exact ih _ _
      · split
        · split
          · exact (ih _ _).trans (fr_pA_X12_holds_68 (fr_subc rfl h))
          · (try dsimp only); exact (fr_pA_X12_holds_68 (fr_subc rfl h))
        · split
          · exact ih _ _
          · split
            · exact (ih _ _).trans (fr_pA_X12_holds_68 (fr_subc rfl h))
            · (try dsimp only); exact (fr_pA_X12_holds_68 (fr_subc rfl h))
theorem fr_pA_X12_decides_68 {n : Nat} {I : Nat → Nat → Int32} {A : Nat → Nat → Int32} {J : Nat → Nat → Int64} {t : Bool × Bool} {x1 : Int32} {x2 : Int32} {x3 : Int32} {x4 : Int32} {x5 : Int32} {x6 : Int32} {c : Nat} (h : c ∉ [107, 108]) : pA_X12_decides_68 n I A J t x1 x2 x3 x4 x5 x6 c = A c := ((fr_lp_X12_decides_68_81_c1 (fr_subc rfl h) _ _ _).trans (fr_qA77_X12_decides_68 (fr_subc rfl h)))
theorem fr_lp_X12_yieldsTo_68_3_c1 {n : Nat} {I : Nat → Nat → Int32} {A : Nat → Nat → Int32} {J : Nat → Nat → Int64} {t : Bool × Bool} {x1 : Int32} {x2 : Int32} {x3 : Int32} {x4 : Int32} {x5 : Int32} {x6 : Int32} {c k : Nat} (h : (c, k) ∉ [(68, 59), (68, 60), (68, 61)]) : ∀ (f : Nat) (I3 : Nat → Nat → Int32) (A3 : Nat → Nat → Int32) (v3_7 : Int32), (lp_X12_yieldsTo_68_3 n I A J t x1 x2 x3 x4 x5 x6 f I3 A3 v3_7).2.1 c k = I3 c k := by
  intro f
  induction f with
  | zero => intro _ _ _; rfl
  | succ f ih =>
    intro I3 A3 v3_7
    unfold lp_X12_yieldsTo_68_3
    split
    · exact rfl
    · split
      · exact (ih _ _ _).trans (fr_pI_X12_clashes_68 (fr_subp rfl h))
      · split
        · (try dsimp only); exact (fr_pI_X12_clashes_68 (fr_subp rfl h))
        · split
          · exact (ih _ _ _).trans (fr_pI_X12_clashes_68 (fr_subp rfl h))
          · (try dsimp only); exact (fr_pI_X12_clashes_68 (fr_subp rfl h))
theorem fr_lp_X12_yieldsTo_68_3_c2 {n : Nat} {I : Nat → Nat → Int32} {A : Nat → Nat → Int32} {J : Nat → Nat → Int64} {t : Bool × Bool} {x1 : Int32} {x2 : Int32} {x3 : Int32} {x4 : Int32} {x5 : Int32} {x6 : Int32} {c : Nat} (h : c ∉ [107, 108]) : ∀ (f : Nat) (I3 : Nat → Nat → Int32) (A3 : Nat → Nat → Int32) (v3_7 : Int32), (lp_X12_yieldsTo_68_3 n I A J t x1 x2 x3 x4 x5 x6 f I3 A3 v3_7).2.2 c = A3 c := by
  intro f
  induction f with
  | zero => intro _ _ _; rfl
  | succ f ih =>
    intro I3 A3 v3_7
    unfold lp_X12_yieldsTo_68_3
    split
    · exact rfl
    · split
      · exact ih _ _ _
      · split
        · (try dsimp only); exact (fr_pA_X12_decides_68 (fr_subc rfl h))
        · split
          · exact (ih _ _ _).trans (fr_pA_X12_decides_68 (fr_subc rfl h))
          · (try dsimp only); exact (fr_pA_X12_decides_68 (fr_subc rfl h))
theorem fr_pI_X12_yieldsTo_68 {n : Nat} {I : Nat → Nat → Int32} {A : Nat → Nat → Int32} {J : Nat → Nat → Int64} {t : Bool × Bool} {x1 : Int32} {x2 : Int32} {x3 : Int32} {x4 : Int32} {x5 : Int32} {x6 : Int32} {c k : Nat} (h : (c, k) ∉ [(68, 59), (68, 60), (68, 61)]) : pI_X12_yieldsTo_68 n I A J t x1 x2 x3 x4 x5 x6 c k = I c k := (fr_lp_X12_yieldsTo_68_3_c1 (fr_subp rfl h) _ _ _ _)
theorem fr_pA_X12_yieldsTo_68 {n : Nat} {I : Nat → Nat → Int32} {A : Nat → Nat → Int32} {J : Nat → Nat → Int64} {t : Bool × Bool} {x1 : Int32} {x2 : Int32} {x3 : Int32} {x4 : Int32} {x5 : Int32} {x6 : Int32} {c : Nat} (h : c ∉ [107, 108]) : pA_X12_yieldsTo_68 n I A J t x1 x2 x3 x4 x5 x6 c = A c := (fr_lp_X12_yieldsTo_68_3_c2 (fr_subc rfl h) _ _ _ _)
theorem fr_qIm20_X12_yields_68 {n : Nat} {I : Nat → Nat → Int32} {A : Nat → Nat → Int32} {J : Nat → Nat → Int64} {t : Bool × Bool} {x1 : Int32} {x2 : Int32} {x3 : Int32} {x4 : Int32} {x5 : Int32} {x6 : Int32} {c k : Nat} (h : (c, k) ∉ [(68, 59), (68, 60), (68, 61)]) : qIm20_X12_yields_68 n I A J t x1 x2 x3 x4 x5 x6 c k = I c k := (fr_itep rfl (fr_pI_X12_yieldsTo_68 (fr_subp rfl h)))
theorem fr_qAm20_X12_yields_68 {n : Nat} {I : Nat → Nat → Int32} {A : Nat → Nat → Int32} {J : Nat → Nat → Int64} {t : Bool × Bool} {x1 : Int32} {x2 : Int32} {x3 : Int32} {x4 : Int32} {x5 : Int32} {x6 : Int32} {c : Nat} (h : c ∉ [107, 108]) : qAm20_X12_yields_68 n I A J t x1 x2 x3 x4 x5 x6 c = A c := (fr_itec rfl (fr_pA_X12_yieldsTo_68 (fr_subc rfl h)))
theorem fr_qIm11_X12_yields_68 {n : Nat} {I : Nat → Nat → Int32} {A : Nat → Nat → Int32} {J : Nat → Nat → Int64} {t : Bool × Bool} {x1 : Int32} {x2 : Int32} {x3 : Int32} {x4 : Int32} {x5 : Int32} {x6 : Int32} {c k : Nat} (h : (c, k) ∉ [(68, 59), (68, 60), (68, 61)]) : qIm11_X12_yields_68 n I A J t x1 x2 x3 x4 x5 x6 c k = I c k := (fr_itep rfl (fr_qIm20_X12_yields_68 (fr_subp rfl h)))
theorem fr_qAm11_X12_yields_68 {n : Nat} {I : Nat → Nat → Int32} {A : Nat → Nat → Int32} {J : Nat → Nat → Int64} {t : Bool × Bool} {x1 : Int32} {x2 : Int32} {x3 : Int32} {x4 : Int32} {x5 : Int32} {x6 : Int32} {c : Nat} (h : c ∉ [107, 108]) : qAm11_X12_yields_68 n I A J t x1 x2 x3 x4 x5 x6 c = A c := (fr_itec rfl (fr_qAm20_X12_yields_68 (fr_subc rfl h)))
theorem fr_pI_X12_yields_68 {n : Nat} {I : Nat → Nat → Int32} {A : Nat → Nat → Int32} {J : Nat → Nat → Int64} {t : Bool × Bool} {x1 : Int32} {x2 : Int32} {x3 : Int32} {x4 : Int32} {x5 : Int32} {x6 : Int32} {c k : Nat} (h : (c, k) ∉ [(68, 59), (68, 60), (68, 61)]) : pI_X12_yields_68 n I A J t x1 x2 x3 x4 x5 x6 c k = I c k := (fr_qIm11_X12_yields_68 (fr_subp rfl h))
theorem fr_pA_X12_yields_68 {n : Nat} {I : Nat → Nat → Int32} {A : Nat → Nat → Int32} {J : Nat → Nat → Int64} {t : Bool × Bool} {x1 : Int32} {x2 : Int32} {x3 : Int32} {x4 : Int32} {x5 : Int32} {x6 : Int32} {c : Nat} (h : c ∉ [107, 108]) : pA_X12_yields_68 n I A J t x1 x2 x3 x4 x5 x6 c = A c := (fr_qAm11_X12_yields_68 (fr_subc rfl h))
theorem fr_pI_X12_rule_68 {n : Nat} {I : Nat → Nat → Int32} {A : Nat → Nat → Int32} {J : Nat → Nat → Int64} {t : Bool × Bool} {x1 : Int32} {x2 : Int32} {x3 : Int32} {x4 : Int32} {x5 : Int32} {x6 : Int32} {c k : Nat} (h : (c, k) ∉ [(68, 59), (68, 60), (68, 61)]) : pI_X12_rule_68 n I A J t x1 x2 x3 x4 x5 x6 c k = I c k := (fr_itep rfl (fr_itep rfl (fr_itep rfl (fr_pI_X12_clashes_68 (fr_subp rfl h)))))
theorem fr_pA_X12_rule_68 {n : Nat} {I : Nat → Nat → Int32} {A : Nat → Nat → Int32} {J : Nat → Nat → Int64} {t : Bool × Bool} {x1 : Int32} {x2 : Int32} {x3 : Int32} {x4 : Int32} {x5 : Int32} {x6 : Int32} {c : Nat} (h : c ∉ [107, 108]) : pA_X12_rule_68 n I A J t x1 x2 x3 x4 x5 x6 c = A c := (fr_itec rfl (fr_itec rfl (fr_itec rfl (fr_itec rfl (fr_pA_X12_decides_68 (fr_subc rfl h))))))
theorem fr_qA15_X12_fits_68 {n : Nat} {I : Nat → Nat → Int32} {A : Nat → Nat → Int32} {J : Nat → Nat → Int64} {t : Bool × Bool} {x1 : Int32} {x2 : Int32} {x3 : Int32} {x4 : Int32} {x5 : Int32} {c : Nat} (h : c ∉ [114]) : qA15_X12_fits_68 n I A J t x1 x2 x3 x4 x5 c = A c := (fr_uc h (List.mem_of_getElem? (i := 0) rfl) rfl)
theorem fr_qA176_X12_fits_68 {n : Nat} {I : Nat → Nat → Int32} {A : Nat → Nat → Int32} {J : Nat → Nat → Int64} {t : Bool × Bool} {x1 : Int32} {x2 : Int32} {x3 : Int32} {x4 : Int32} {x5 : Int32} {I93 : Nat → Nat → Int32} {A93 : Nat → Nat → Int32} {v93_9 : Int32} {c : Nat} (h : c ∉ [107, 108, 114]) : qA176_X12_fits_68 n I A J t x1 x2 x3 x4 x5 I93 A93 v93_9 c = A93 c := (fr_uc h (List.mem_of_getElem? (i := 2) rfl) (fr_pA_X12_yieldsTo_68 (fr_subc rfl h)))
theorem fr_qA185_X12_fits_68 {n : Nat} {I : Nat → Nat → Int32} {A : Nat → Nat → Int32} {J : Nat → Nat → Int64} {t : Bool × Bool} {x1 : Int32} {x2 : Int32} {x3 : Int32} {x4 : Int32} {x5 : Int32} {I93 : Nat → Nat → Int32} {A93 : Nat → Nat → Int32} {v93_9 : Int32} {c : Nat} (h : c ∉ [107, 108, 114, 115]) : qA185_X12_fits_68 n I A J t x1 x2 x3 x4 x5 I93 A93 v93_9 c = A93 c := (fr_uc h (List.mem_of_getElem? (i := 3) rfl) (fr_qA176_X12_fits_68 (fr_subc rfl h)))
theorem fr_qAm162_X12_fits_68 {n : Nat} {I : Nat → Nat → Int32} {A : Nat → Nat → Int32} {J : Nat → Nat → Int64} {t : Bool × Bool} {x1 : Int32} {x2 : Int32} {x3 : Int32} {x4 : Int32} {x5 : Int32} {I93 : Nat → Nat → Int32} {A93 : Nat → Nat → Int32} {v93_9 : Int32} {c : Nat} (h : c ∉ [107, 108, 114, 115]) : qAm162_X12_fits_68 n I A J t x1 x2 x3 x4 x5 I93 A93 v93_9 c = A93 c := (fr_itec (fr_qA185_X12_fits_68 (fr_subc rfl h)) (fr_pA_X12_yieldsTo_68 (fr_subc rfl h)))
theorem fr_qIm144_X12_fits_68 {n : Nat} {I : Nat → Nat → Int32} {A : Nat → Nat → Int32} {J : Nat → Nat → Int64} {t : Bool × Bool} {x1 : Int32} {x2 : Int32} {x3 : Int32} {x4 : Int32} {x5 : Int32} {I93 : Nat → Nat → Int32} {A93 : Nat → Nat → Int32} {v93_9 : Int32} {c k : Nat} (h : (c, k) ∉ [(68, 59), (68, 60), (68, 61)]) : qIm144_X12_fits_68 n I A J t x1 x2 x3 x4 x5 I93 A93 v93_9 c k = I93 c k := (fr_itep (fr_pI_X12_strengthOf_68 (fr_subp rfl h)) ((fr_pI_X12_yieldsTo_68 (fr_subp rfl h)).trans (fr_pI_X12_strengthOf_68 (fr_subp rfl h))))
theorem fr_qAm144_X12_fits_68 {n : Nat} {I : Nat → Nat → Int32} {A : Nat → Nat → Int32} {J : Nat → Nat → Int64} {t : Bool × Bool} {x1 : Int32} {x2 : Int32} {x3 : Int32} {x4 : Int32} {x5 : Int32} {I93 : Nat → Nat → Int32} {A93 : Nat → Nat → Int32} {v93_9 : Int32} {c : Nat} (h : c ∉ [107, 108, 114, 115]) : qAm144_X12_fits_68 n I A J t x1 x2 x3 x4 x5 I93 A93 v93_9 c = A93 c := (fr_itec rfl (fr_qAm162_X12_fits_68 (fr_subc rfl h)))
theorem fr_qIm132_X12_fits_68 {n : Nat} {I : Nat → Nat → Int32} {A : Nat → Nat → Int32} {J : Nat → Nat → Int64} {t : Bool × Bool} {x1 : Int32} {x2 : Int32} {x3 : Int32} {x4 : Int32} {x5 : Int32} {I93 : Nat → Nat → Int32} {A93 : Nat → Nat → Int32} {v93_9 : Int32} {c k : Nat} (h : (c, k) ∉ [(68, 59), (68, 60), (68, 61)]) : qIm132_X12_fits_68 n I A J t x1 x2 x3 x4 x5 I93 A93 v93_9 c k = I93 c k := (fr_itep ((fr_pI_X12_yieldsTo_68 (fr_subp rfl h)).trans (fr_pI_X12_strengthOf_68 (fr_subp rfl h))) (fr_qIm144_X12_fits_68 (fr_subp rfl h)))
theorem fr_qAm132_X12_fits_68 {n : Nat} {I : Nat → Nat → Int32} {A : Nat → Nat → Int32} {J : Nat → Nat → Int64} {t : Bool × Bool} {x1 : Int32} {x2 : Int32} {x3 : Int32} {x4 : Int32} {x5 : Int32} {I93 : Nat → Nat → Int32} {A93 : Nat → Nat → Int32} {v93_9 : Int32} {c : Nat} (h : c ∉ [107, 108, 114, 115]) : qAm132_X12_fits_68 n I A J t x1 x2 x3 x4 x5 I93 A93 v93_9 c = A93 c := (fr_itec (fr_qAm162_X12_fits_68 (fr_subc rfl h)) (fr_qAm144_X12_fits_68 (fr_subc rfl h)))
theorem fr_qIm121_X12_fits_68 {n : Nat} {I : Nat → Nat → Int32} {A : Nat → Nat → Int32} {J : Nat → Nat → Int64} {t : Bool × Bool} {x1 : Int32} {x2 : Int32} {x3 : Int32} {x4 : Int32} {x5 : Int32} {I93 : Nat → Nat → Int32} {A93 : Nat → Nat → Int32} {v93_9 : Int32} {c k : Nat} (h : (c, k) ∉ [(68, 59), (68, 60), (68, 61)]) : qIm121_X12_fits_68 n I A J t x1 x2 x3 x4 x5 I93 A93 v93_9 c k = I93 c k := (fr_itep (fr_pI_X12_strengthOf_68 (fr_subp rfl h)) (fr_qIm132_X12_fits_68 (fr_subp rfl h)))
theorem fr_qAm121_X12_fits_68 {n : Nat} {I : Nat → Nat → Int32} {A : Nat → Nat → Int32} {J : Nat → Nat → Int64} {t : Bool × Bool} {x1 : Int32} {x2 : Int32} {x3 : Int32} {x4 : Int32} {x5 : Int32} {I93 : Nat → Nat → Int32} {A93 : Nat → Nat → Int32} {v93_9 : Int32} {c : Nat} (h : c ∉ [107, 108, 114, 115]) : qAm121_X12_fits_68 n I A J t x1 x2 x3 x4 x5 I93 A93 v93_9 c = A93 c := (fr_itec rfl (fr_qAm132_X12_fits_68 (fr_subc rfl h)))
theorem fr_lp_X12_fits_68_93_c0 {n : Nat} {I : Nat → Nat → Int32} {A : Nat → Nat → Int32} {J : Nat → Nat → Int64} {t : Bool × Bool} {x1 : Int32} {x2 : Int32} {x3 : Int32} {x4 : Int32} {x5 : Int32} {c k : Nat} (h : (c, k) ∉ [(68, 59), (68, 60), (68, 61)]) : ∀ (f : Nat) (I93 : Nat → Nat → Int32) (A93 : Nat → Nat → Int32) (v93_9 : Int32), (lp_X12_fits_68_93 n I A J t x1 x2 x3 x4 x5 f I93 A93 v93_9).1 c k = I93 c k := by
  intro f
  induction f with
  | zero => intro _ _ _; rfl
  | succ f ih =>
    intro I93 A93 v93_9
    unfold lp_X12_fits_68_93
    split
    · exact rfl
    · exact (ih _ _ _).trans (fr_qIm121_X12_fits_68 (fr_subp rfl h))
theorem fr_lp_X12_fits_68_93_c1 {n : Nat} {I : Nat → Nat → Int32} {A : Nat → Nat → Int32} {J : Nat → Nat → Int64} {t : Bool × Bool} {x1 : Int32} {x2 : Int32} {x3 : Int32} {x4 : Int32} {x5 : Int32} {c : Nat} (h : c ∉ [107, 108, 114, 115]) : ∀ (f : Nat) (I93 : Nat → Nat → Int32) (A93 : Nat → Nat → Int32) (v93_9 : Int32), (lp_X12_fits_68_93 n I A J t x1 x2 x3 x4 x5 f I93 A93 v93_9).2.1 c = A93 c := by
  intro f
  induction f with
  | zero => intro _ _ _; rfl
  | succ f ih =>
    intro I93 A93 v93_9
    unfold lp_X12_fits_68_93
    split
    · exact rfl
    · exact (ih _ _ _).trans (fr_qAm121_X12_fits_68 (fr_subc rfl h))
theorem fr_qIw93_X12_fits_68 {n : Nat} {I : Nat → Nat → Int32} {A : Nat → Nat → Int32} {J : Nat → Nat → Int64} {t : Bool × Bool} {x1 : Int32} {x2 : Int32} {x3 : Int32} {x4 : Int32} {x5 : Int32} {c k : Nat} (h : (c, k) ∉ [(68, 59), (68, 60), (68, 61)]) : qIw93_X12_fits_68 n I A J t x1 x2 x3 x4 x5 c k = I c k := ((fr_lp_X12_fits_68_93_c0 (fr_subp rfl h) _ _ _ _).trans (fr_pI_X12_goes_68 (fr_subp rfl h)))
theorem fr_qAw93_X12_fits_68 {n : Nat} {I : Nat → Nat → Int32} {A : Nat → Nat → Int32} {J : Nat → Nat → Int64} {t : Bool × Bool} {x1 : Int32} {x2 : Int32} {x3 : Int32} {x4 : Int32} {x5 : Int32} {c : Nat} (h : c ∉ [107, 108, 114, 115]) : qAw93_X12_fits_68 n I A J t x1 x2 x3 x4 x5 c = A c := ((fr_lp_X12_fits_68_93_c1 (fr_subc rfl h) _ _ _ _).trans (fr_qA15_X12_fits_68 (fr_subc rfl h)))
theorem fr_qA222_X12_fits_68 {n : Nat} {I : Nat → Nat → Int32} {A : Nat → Nat → Int32} {J : Nat → Nat → Int64} {t : Bool × Bool} {x1 : Int32} {x2 : Int32} {x3 : Int32} {x4 : Int32} {x5 : Int32} {c : Nat} (h : c ∉ [107, 108, 114, 115]) : qA222_X12_fits_68 n I A J t x1 x2 x3 x4 x5 c = A c := (fr_uc h (List.mem_of_getElem? (i := 2) rfl) (fr_qAw93_X12_fits_68 (fr_subc rfl h)))
theorem fr_qAm212_X12_fits_68 {n : Nat} {I : Nat → Nat → Int32} {A : Nat → Nat → Int32} {J : Nat → Nat → Int64} {t : Bool × Bool} {x1 : Int32} {x2 : Int32} {x3 : Int32} {x4 : Int32} {x5 : Int32} {c : Nat} (h : c ∉ [107, 108, 114, 115]) : qAm212_X12_fits_68 n I A J t x1 x2 x3 x4 x5 c = A c := (fr_itec (fr_qAw93_X12_fits_68 (fr_subc rfl h)) (fr_qA222_X12_fits_68 (fr_subc rfl h)))
theorem fr_qAm200_X12_fits_68 {n : Nat} {I : Nat → Nat → Int32} {A : Nat → Nat → Int32} {J : Nat → Nat → Int64} {t : Bool × Bool} {x1 : Int32} {x2 : Int32} {x3 : Int32} {x4 : Int32} {x5 : Int32} {c : Nat} (h : c ∉ [107, 108, 114, 115]) : qAm200_X12_fits_68 n I A J t x1 x2 x3 x4 x5 c = A c := (fr_itec (fr_qAw93_X12_fits_68 (fr_subc rfl h)) (fr_qAm212_X12_fits_68 (fr_subc rfl h)))
theorem fr_qA231_X12_fits_68 {n : Nat} {I : Nat → Nat → Int32} {A : Nat → Nat → Int32} {J : Nat → Nat → Int64} {t : Bool × Bool} {x1 : Int32} {x2 : Int32} {x3 : Int32} {x4 : Int32} {x5 : Int32} {c : Nat} (h : c ∉ [107, 108, 114, 115, 116]) : qA231_X12_fits_68 n I A J t x1 x2 x3 x4 x5 c = A c := (fr_uc h (List.mem_of_getElem? (i := 4) rfl) (fr_qAm200_X12_fits_68 (fr_subc rfl h)))
theorem fr_lp_X12_fits_68_93_2_c0 {n : Nat} {I : Nat → Nat → Int32} {A : Nat → Nat → Int32} {J : Nat → Nat → Int64} {t : Bool × Bool} {x1 : Int32} {x2 : Int32} {x3 : Int32} {x4 : Int32} {x5 : Int32} {c k : Nat} (h : (c, k) ∉ [(68, 59), (68, 60), (68, 61)]) : ∀ (f : Nat) (I93 : Nat → Nat → Int32) (A93 : Nat → Nat → Int32) (v93_9 : Int32), (lp_X12_fits_68_93_2 n I A J t x1 x2 x3 x4 x5 f I93 A93 v93_9).1 c k = I93 c k := by
  intro f
  induction f with
  | zero => intro _ _ _; rfl
  | succ f ih =>
    intro I93 A93 v93_9
    unfold lp_X12_fits_68_93_2
    split
    · exact rfl
    · exact (ih _ _ _).trans (fr_qIm121_X12_fits_68 (fr_subp rfl h))
theorem fr_lp_X12_fits_68_93_2_c1 {n : Nat} {I : Nat → Nat → Int32} {A : Nat → Nat → Int32} {J : Nat → Nat → Int64} {t : Bool × Bool} {x1 : Int32} {x2 : Int32} {x3 : Int32} {x4 : Int32} {x5 : Int32} {c : Nat} (h : c ∉ [107, 108, 114, 115]) : ∀ (f : Nat) (I93 : Nat → Nat → Int32) (A93 : Nat → Nat → Int32) (v93_9 : Int32), (lp_X12_fits_68_93_2 n I A J t x1 x2 x3 x4 x5 f I93 A93 v93_9).2.1 c = A93 c := by
  intro f
  induction f with
  | zero => intro _ _ _; rfl
  | succ f ih =>
    intro I93 A93 v93_9
    unfold lp_X12_fits_68_93_2
    split
    · exact rfl
    · exact (ih _ _ _).trans (fr_qAm121_X12_fits_68 (fr_subc rfl h))
theorem fr_qIw93_1_X12_fits_68 {n : Nat} {I : Nat → Nat → Int32} {A : Nat → Nat → Int32} {J : Nat → Nat → Int64} {t : Bool × Bool} {x1 : Int32} {x2 : Int32} {x3 : Int32} {x4 : Int32} {x5 : Int32} {c k : Nat} (h : (c, k) ∉ [(68, 59), (68, 60), (68, 61)]) : qIw93_1_X12_fits_68 n I A J t x1 x2 x3 x4 x5 c k = I c k := ((fr_lp_X12_fits_68_93_2_c0 (fr_subp rfl h) _ _ _ _).trans (fr_pI_X12_goes_68 (fr_subp rfl h)))
theorem fr_qAw93_2_X12_fits_68 {n : Nat} {I : Nat → Nat → Int32} {A : Nat → Nat → Int32} {J : Nat → Nat → Int64} {t : Bool × Bool} {x1 : Int32} {x2 : Int32} {x3 : Int32} {x4 : Int32} {x5 : Int32} {c : Nat} (h : c ∉ [107, 108, 114, 115]) : qAw93_2_X12_fits_68 n I A J t x1 x2 x3 x4 x5 c = A c := ((fr_lp_X12_fits_68_93_2_c1 (fr_subc rfl h) _ _ _ _).trans (fr_qA15_X12_fits_68 (fr_subc rfl h)))
theorem fr_qA222_4_X12_fits_68 {n : Nat} {I : Nat → Nat → Int32} {A : Nat → Nat → Int32} {J : Nat → Nat → Int64} {t : Bool × Bool} {x1 : Int32} {x2 : Int32} {x3 : Int32} {x4 : Int32} {x5 : Int32} {c : Nat} (h : c ∉ [107, 108, 114, 115]) : qA222_4_X12_fits_68 n I A J t x1 x2 x3 x4 x5 c = A c := (fr_uc h (List.mem_of_getElem? (i := 2) rfl) (fr_qAw93_2_X12_fits_68 (fr_subc rfl h)))
theorem fr_qAm212_5_X12_fits_68 {n : Nat} {I : Nat → Nat → Int32} {A : Nat → Nat → Int32} {J : Nat → Nat → Int64} {t : Bool × Bool} {x1 : Int32} {x2 : Int32} {x3 : Int32} {x4 : Int32} {x5 : Int32} {c : Nat} (h : c ∉ [107, 108, 114, 115]) : qAm212_5_X12_fits_68 n I A J t x1 x2 x3 x4 x5 c = A c := (fr_itec (fr_qAw93_2_X12_fits_68 (fr_subc rfl h)) (fr_qA222_4_X12_fits_68 (fr_subc rfl h)))
theorem fr_qAm200_6_X12_fits_68 {n : Nat} {I : Nat → Nat → Int32} {A : Nat → Nat → Int32} {J : Nat → Nat → Int64} {t : Bool × Bool} {x1 : Int32} {x2 : Int32} {x3 : Int32} {x4 : Int32} {x5 : Int32} {c : Nat} (h : c ∉ [107, 108, 114, 115]) : qAm200_6_X12_fits_68 n I A J t x1 x2 x3 x4 x5 c = A c := (fr_itec (fr_qAw93_2_X12_fits_68 (fr_subc rfl h)) (fr_qAm212_5_X12_fits_68 (fr_subc rfl h)))
theorem fr_qA231_7_X12_fits_68 {n : Nat} {I : Nat → Nat → Int32} {A : Nat → Nat → Int32} {J : Nat → Nat → Int64} {t : Bool × Bool} {x1 : Int32} {x2 : Int32} {x3 : Int32} {x4 : Int32} {x5 : Int32} {c : Nat} (h : c ∉ [107, 108, 114, 115, 116]) : qA231_7_X12_fits_68 n I A J t x1 x2 x3 x4 x5 c = A c := (fr_uc h (List.mem_of_getElem? (i := 4) rfl) (fr_qAm200_6_X12_fits_68 (fr_subc rfl h)))
theorem fr_pI_X12_fits_68 {n : Nat} {I : Nat → Nat → Int32} {A : Nat → Nat → Int32} {J : Nat → Nat → Int64} {t : Bool × Bool} {x1 : Int32} {x2 : Int32} {x3 : Int32} {x4 : Int32} {x5 : Int32} {c k : Nat} (h : (c, k) ∉ [(68, 59), (68, 60), (68, 61)]) : pI_X12_fits_68 n I A J t x1 x2 x3 x4 x5 c k = I c k := (fr_itep rfl (fr_itep (fr_itep (fr_qIw93_X12_fits_68 (fr_subp rfl h)) (fr_itep (fr_qIw93_1_X12_fits_68 (fr_subp rfl h)) (fr_pI_X12_goes_68 (fr_subp rfl h)))) rfl))
theorem fr_pA_X12_fits_68 {n : Nat} {I : Nat → Nat → Int32} {A : Nat → Nat → Int32} {J : Nat → Nat → Int64} {t : Bool × Bool} {x1 : Int32} {x2 : Int32} {x3 : Int32} {x4 : Int32} {x5 : Int32} {c : Nat} (h : c ∉ [107, 108, 114, 115, 116]) : pA_X12_fits_68 n I A J t x1 x2 x3 x4 x5 c = A c := (fr_itec (fr_qA15_X12_fits_68 (fr_subc rfl h)) (fr_itec (fr_itec (fr_qA231_X12_fits_68 (fr_subc rfl h)) (fr_itec (fr_qA231_7_X12_fits_68 (fr_subc rfl h)) (fr_qA15_X12_fits_68 (fr_subc rfl h)))) (fr_qA15_X12_fits_68 (fr_subc rfl h))))
theorem fr_qA22_X12_lays_68 {n : Nat} {I : Nat → Nat → Int32} {A : Nat → Nat → Int32} {J : Nat → Nat → Int64} {t : Bool × Bool} {x1 : Int32} {A2 : Nat → Nat → Int32} {v2_2 : Int32} {c : Nat} (h : c ∉ [118]) : qA22_X12_lays_68 n I A J t x1 A2 v2_2 c = A2 c := (fr_uc h (List.mem_of_getElem? (i := 0) rfl) rfl)
theorem fr_qA37_X12_lays_68 {n : Nat} {I : Nat → Nat → Int32} {A : Nat → Nat → Int32} {J : Nat → Nat → Int64} {t : Bool × Bool} {x1 : Int32} {A2 : Nat → Nat → Int32} {v2_2 : Int32} {c : Nat} (h : c ∉ [118, 119]) : qA37_X12_lays_68 n I A J t x1 A2 v2_2 c = A2 c := (fr_uc h (List.mem_of_getElem? (i := 1) rfl) (fr_qA22_X12_lays_68 (fr_subc rfl h)))
theorem fr_lp_X12_lays_68_2_c0 {n : Nat} {I : Nat → Nat → Int32} {A : Nat → Nat → Int32} {J : Nat → Nat → Int64} {t : Bool × Bool} {x1 : Int32} {c : Nat} (h : c ∉ [118, 119]) : ∀ (f : Nat) (A2 : Nat → Nat → Int32) (v2_2 : Int32), (lp_X12_lays_68_2 n I A J t x1 f A2 v2_2).1 c = A2 c := by
  intro f
  induction f with
  | zero => intro _ _; rfl
  | succ f ih =>
    intro A2 v2_2
    unfold lp_X12_lays_68_2
    split
    · exact rfl
    · exact (ih _ _).trans (fr_qA37_X12_lays_68 (fr_subc rfl h))
theorem fr_qAw2_X12_lays_68 {n : Nat} {I : Nat → Nat → Int32} {A : Nat → Nat → Int32} {J : Nat → Nat → Int64} {t : Bool × Bool} {x1 : Int32} {c : Nat} (h : c ∉ [118, 119]) : qAw2_X12_lays_68 n I A J t x1 c = A c := (fr_lp_X12_lays_68_2_c0 (fr_subc rfl h) _ _ _)
theorem fr_qA90_X12_lays_68 {n : Nat} {I : Nat → Nat → Int32} {A : Nat → Nat → Int32} {J : Nat → Nat → Int64} {t : Bool × Bool} {x1 : Int32} {A51 : Nat → Nat → Int32} {v51_2 : Int32} {A57 : Nat → Nat → Int32} {v57_3 : Int32} {c : Nat} (h : c ∉ [118]) : qA90_X12_lays_68 n I A J t x1 A51 v51_2 A57 v57_3 c = A57 c := (fr_uc h (List.mem_of_getElem? (i := 0) rfl) rfl)
theorem fr_qA110_X12_lays_68 {n : Nat} {I : Nat → Nat → Int32} {A : Nat → Nat → Int32} {J : Nat → Nat → Int64} {t : Bool × Bool} {x1 : Int32} {A51 : Nat → Nat → Int32} {v51_2 : Int32} {A57 : Nat → Nat → Int32} {v57_3 : Int32} {c : Nat} (h : c ∉ [118, 119]) : qA110_X12_lays_68 n I A J t x1 A51 v51_2 A57 v57_3 c = A57 c := (fr_uc h (List.mem_of_getElem? (i := 1) rfl) (fr_qA90_X12_lays_68 (fr_subc rfl h)))
theorem fr_qA257_X12_lays_68 {n : Nat} {I : Nat → Nat → Int32} {A : Nat → Nat → Int32} {J : Nat → Nat → Int64} {t : Bool × Bool} {x1 : Int32} {A51 : Nat → Nat → Int32} {v51_2 : Int32} {A57 : Nat → Nat → Int32} {v57_3 : Int32} {A114 : Nat → Nat → Int32} {v114_5 : Int32} {c : Nat} (h : c ∉ [118]) : qA257_X12_lays_68 n I A J t x1 A51 v51_2 A57 v57_3 A114 v114_5 c = A114 c := (fr_uc h (List.mem_of_getElem? (i := 0) rfl) rfl)
theorem fr_qA266_X12_lays_68 {n : Nat} {I : Nat → Nat → Int32} {A : Nat → Nat → Int32} {J : Nat → Nat → Int64} {t : Bool × Bool} {x1 : Int32} {A51 : Nat → Nat → Int32} {v51_2 : Int32} {A57 : Nat → Nat → Int32} {v57_3 : Int32} {A114 : Nat → Nat → Int32} {v114_5 : Int32} {c : Nat} (h : c ∉ [118, 119]) : qA266_X12_lays_68 n I A J t x1 A51 v51_2 A57 v57_3 A114 v114_5 c = A114 c := (fr_uc h (List.mem_of_getElem? (i := 1) rfl) (fr_qA257_X12_lays_68 (fr_subc rfl h)))
theorem fr_qAm243_X12_lays_68 {n : Nat} {I : Nat → Nat → Int32} {A : Nat → Nat → Int32} {J : Nat → Nat → Int64} {t : Bool × Bool} {x1 : Int32} {A51 : Nat → Nat → Int32} {v51_2 : Int32} {A57 : Nat → Nat → Int32} {v57_3 : Int32} {A114 : Nat → Nat → Int32} {v114_5 : Int32} {c : Nat} (h : c ∉ [118, 119]) : qAm243_X12_lays_68 n I A J t x1 A51 v51_2 A57 v57_3 A114 v114_5 c = A114 c := (fr_itec (fr_qA266_X12_lays_68 (fr_subc rfl h)) rfl)
theorem fr_qAm231_X12_lays_68 {n : Nat} {I : Nat → Nat → Int32} {A : Nat → Nat → Int32} {J : Nat → Nat → Int64} {t : Bool × Bool} {x1 : Int32} {A51 : Nat → Nat → Int32} {v51_2 : Int32} {A57 : Nat → Nat → Int32} {v57_3 : Int32} {A114 : Nat → Nat → Int32} {v114_5 : Int32} {c : Nat} (h : c ∉ [118, 119]) : qAm231_X12_lays_68 n I A J t x1 A51 v51_2 A57 v57_3 A114 v114_5 c = A114 c := (fr_itec (fr_qAm243_X12_lays_68 (fr_subc rfl h)) (fr_qA266_X12_lays_68 (fr_subc rfl h)))
theorem fr_qAm219_X12_lays_68 {n : Nat} {I : Nat → Nat → Int32} {A : Nat → Nat → Int32} {J : Nat → Nat → Int64} {t : Bool × Bool} {x1 : Int32} {A51 : Nat → Nat → Int32} {v51_2 : Int32} {A57 : Nat → Nat → Int32} {v57_3 : Int32} {A114 : Nat → Nat → Int32} {v114_5 : Int32} {c : Nat} (h : c ∉ [118, 119]) : qAm219_X12_lays_68 n I A J t x1 A51 v51_2 A57 v57_3 A114 v114_5 c = A114 c := (fr_itec rfl (fr_qAm231_X12_lays_68 (fr_subc rfl h)))
theorem fr_qAm146_X12_lays_68 {n : Nat} {I : Nat → Nat → Int32} {A : Nat → Nat → Int32} {J : Nat → Nat → Int64} {t : Bool × Bool} {x1 : Int32} {A51 : Nat → Nat → Int32} {v51_2 : Int32} {A57 : Nat → Nat → Int32} {v57_3 : Int32} {A114 : Nat → Nat → Int32} {v114_5 : Int32} {c : Nat} (h : c ∉ [118, 119]) : qAm146_X12_lays_68 n I A J t x1 A51 v51_2 A57 v57_3 A114 v114_5 c = A114 c := (fr_itec rfl (fr_qAm219_X12_lays_68 (fr_subc rfl h)))
theorem fr_qAm130_X12_lays_68 {n : Nat} {I : Nat → Nat → Int32} {A : Nat → Nat → Int32} {J : Nat → Nat → Int64} {t : Bool × Bool} {x1 : Int32} {A51 : Nat → Nat → Int32} {v51_2 : Int32} {A57 : Nat → Nat → Int32} {v57_3 : Int32} {A114 : Nat → Nat → Int32} {v114_5 : Int32} {c : Nat} (h : c ∉ [118, 119]) : qAm130_X12_lays_68 n I A J t x1 A51 v51_2 A57 v57_3 A114 v114_5 c = A114 c := (fr_itec rfl (fr_qAm146_X12_lays_68 (fr_subc rfl h)))
theorem fr_lp_X12_lays_68_114_c0 {n : Nat} {I : Nat → Nat → Int32} {A : Nat → Nat → Int32} {J : Nat → Nat → Int64} {t : Bool × Bool} {x1 : Int32} {A51 : Nat → Nat → Int32} {v51_2 : Int32} {A57 : Nat → Nat → Int32} {v57_3 : Int32} {c : Nat} (h : c ∉ [118, 119]) : ∀ (f : Nat) (A114 : Nat → Nat → Int32) (v114_5 : Int32), (lp_X12_lays_68_114 n I A J t x1 A51 v51_2 A57 v57_3 f A114 v114_5).1 c = A114 c := by
  intro f
  induction f with
  | zero => intro _ _; rfl
  | succ f ih =>
    intro A114 v114_5
    unfold lp_X12_lays_68_114
    split
    · exact rfl
    · exact (ih _ _).trans (fr_qAm130_X12_lays_68 (fr_subc rfl h))
theorem fr_qAw114_X12_lays_68 {n : Nat} {I : Nat → Nat → Int32} {A : Nat → Nat → Int32} {J : Nat → Nat → Int64} {t : Bool × Bool} {x1 : Int32} {A51 : Nat → Nat → Int32} {v51_2 : Int32} {A57 : Nat → Nat → Int32} {v57_3 : Int32} {c : Nat} (h : c ∉ [118, 119]) : qAw114_X12_lays_68 n I A J t x1 A51 v51_2 A57 v57_3 c = A57 c := ((fr_lp_X12_lays_68_114_c0 (fr_subc rfl h) _ _ _).trans (fr_qA110_X12_lays_68 (fr_subc rfl h)))
theorem fr_lp_X12_lays_68_57_c0 {n : Nat} {I : Nat → Nat → Int32} {A : Nat → Nat → Int32} {J : Nat → Nat → Int64} {t : Bool × Bool} {x1 : Int32} {A51 : Nat → Nat → Int32} {v51_2 : Int32} {c : Nat} (h : c ∉ [118, 119]) : ∀ (f : Nat) (A57 : Nat → Nat → Int32) (v57_3 : Int32), (lp_X12_lays_68_57 n I A J t x1 A51 v51_2 f A57 v57_3).1 c = A57 c := by
  intro f
  induction f with
  | zero => intro _ _; rfl
  | succ f ih =>
    intro A57 v57_3
    unfold lp_X12_lays_68_57
    split
    · exact rfl
    · exact (ih _ _).trans (fr_qAw114_X12_lays_68 (fr_subc rfl h))
theorem fr_qAw57_X12_lays_68 {n : Nat} {I : Nat → Nat → Int32} {A : Nat → Nat → Int32} {J : Nat → Nat → Int64} {t : Bool × Bool} {x1 : Int32} {A51 : Nat → Nat → Int32} {v51_2 : Int32} {c : Nat} (h : c ∉ [118, 119]) : qAw57_X12_lays_68 n I A J t x1 A51 v51_2 c = A51 c := (fr_lp_X12_lays_68_57_c0 (fr_subc rfl h) _ _ _)
theorem fr_lp_X12_lays_68_51_c0 {n : Nat} {I : Nat → Nat → Int32} {A : Nat → Nat → Int32} {J : Nat → Nat → Int64} {t : Bool × Bool} {x1 : Int32} {c : Nat} (h : c ∉ [118, 119]) : ∀ (f : Nat) (A51 : Nat → Nat → Int32) (v51_2 : Int32), (lp_X12_lays_68_51 n I A J t x1 f A51 v51_2).1 c = A51 c := by
  intro f
  induction f with
  | zero => intro _ _; rfl
  | succ f ih =>
    intro A51 v51_2
    unfold lp_X12_lays_68_51
    split
    · exact rfl
    · exact (ih _ _).trans (fr_qAw57_X12_lays_68 (fr_subc rfl h))
theorem fr_qAw51_X12_lays_68 {n : Nat} {I : Nat → Nat → Int32} {A : Nat → Nat → Int32} {J : Nat → Nat → Int64} {t : Bool × Bool} {x1 : Int32} {c : Nat} (h : c ∉ [118, 119]) : qAw51_X12_lays_68 n I A J t x1 c = A c := ((fr_lp_X12_lays_68_51_c0 (fr_subc rfl h) _ _ _).trans (fr_qAw2_X12_lays_68 (fr_subc rfl h)))
theorem fr_qA296_X12_lays_68 {n : Nat} {I : Nat → Nat → Int32} {A : Nat → Nat → Int32} {J : Nat → Nat → Int64} {t : Bool × Bool} {x1 : Int32} {c : Nat} (h : c ∉ [113, 118, 119]) : qA296_X12_lays_68 n I A J t x1 c = A c := (fr_uc h (List.mem_of_getElem? (i := 0) rfl) (fr_qAw51_X12_lays_68 (fr_subc rfl h)))
theorem fr_qA313_X12_lays_68 {n : Nat} {I : Nat → Nat → Int32} {A : Nat → Nat → Int32} {J : Nat → Nat → Int64} {t : Bool × Bool} {x1 : Int32} {A301 : Nat → Nat → Int32} {v301_3 : Int32} {c : Nat} (h : c ∉ [117]) : qA313_X12_lays_68 n I A J t x1 A301 v301_3 c = A301 c := (fr_uc h (List.mem_of_getElem? (i := 0) rfl) rfl)
theorem fr_lp_X12_lays_68_301_c0 {n : Nat} {I : Nat → Nat → Int32} {A : Nat → Nat → Int32} {J : Nat → Nat → Int64} {t : Bool × Bool} {x1 : Int32} {c : Nat} (h : c ∉ [117]) : ∀ (f : Nat) (A301 : Nat → Nat → Int32) (v301_3 : Int32), (lp_X12_lays_68_301 n I A J t x1 f A301 v301_3).1 c = A301 c := by
  intro f
  induction f with
  | zero => intro _ _; rfl
  | succ f ih =>
    intro A301 v301_3
    unfold lp_X12_lays_68_301
    split
    · exact rfl
    · exact (ih _ _).trans (fr_qA313_X12_lays_68 (fr_subc rfl h))
theorem fr_qAw301_X12_lays_68 {n : Nat} {I : Nat → Nat → Int32} {A : Nat → Nat → Int32} {J : Nat → Nat → Int64} {t : Bool × Bool} {x1 : Int32} {c : Nat} (h : c ∉ [113, 117, 118, 119]) : qAw301_X12_lays_68 n I A J t x1 c = A c := ((fr_lp_X12_lays_68_301_c0 (fr_subc rfl h) _ _ _).trans (fr_qA296_X12_lays_68 (fr_subc rfl h)))
theorem fr_qA345_X12_lays_68 {n : Nat} {I : Nat → Nat → Int32} {A : Nat → Nat → Int32} {J : Nat → Nat → Int64} {t : Bool × Bool} {x1 : Int32} {A322 : Nat → Nat → Int32} {v322_2 : Int32} {v322_3 : Int32} {c : Nat} (h : c ∉ [109]) : qA345_X12_lays_68 n I A J t x1 A322 v322_2 v322_3 c = A322 c := (fr_uc h (List.mem_of_getElem? (i := 0) rfl) rfl)
theorem fr_qA478_X12_lays_68 {n : Nat} {I : Nat → Nat → Int32} {A : Nat → Nat → Int32} {J : Nat → Nat → Int64} {t : Bool × Bool} {x1 : Int32} {A322 : Nat → Nat → Int32} {v322_2 : Int32} {v322_3 : Int32} {A354 : Nat → Nat → Int32} {v354_5 : Int32} {c : Nat} (h : c ∉ [109]) : qA478_X12_lays_68 n I A J t x1 A322 v322_2 v322_3 A354 v354_5 c = A354 c := (fr_uc h (List.mem_of_getElem? (i := 0) rfl) rfl)
theorem fr_qAm467_X12_lays_68 {n : Nat} {I : Nat → Nat → Int32} {A : Nat → Nat → Int32} {J : Nat → Nat → Int64} {t : Bool × Bool} {x1 : Int32} {A322 : Nat → Nat → Int32} {v322_2 : Int32} {v322_3 : Int32} {A354 : Nat → Nat → Int32} {v354_5 : Int32} {c : Nat} (h : c ∉ [109]) : qAm467_X12_lays_68 n I A J t x1 A322 v322_2 v322_3 A354 v354_5 c = A354 c := (fr_itec (fr_qA478_X12_lays_68 (fr_subc rfl h)) rfl)
theorem fr_qAm433_X12_lays_68 {n : Nat} {I : Nat → Nat → Int32} {A : Nat → Nat → Int32} {J : Nat → Nat → Int64} {t : Bool × Bool} {x1 : Int32} {A322 : Nat → Nat → Int32} {v322_2 : Int32} {v322_3 : Int32} {A354 : Nat → Nat → Int32} {v354_5 : Int32} {c : Nat} (h : c ∉ [109]) : qAm433_X12_lays_68 n I A J t x1 A322 v322_2 v322_3 A354 v354_5 c = A354 c := (fr_itec (fr_qAm467_X12_lays_68 (fr_subc rfl h)) rfl)
theorem fr_qAm382_X12_lays_68 {n : Nat} {I : Nat → Nat → Int32} {A : Nat → Nat → Int32} {J : Nat → Nat → Int64} {t : Bool × Bool} {x1 : Int32} {A322 : Nat → Nat → Int32} {v322_2 : Int32} {v322_3 : Int32} {A354 : Nat → Nat → Int32} {v354_5 : Int32} {c : Nat} (h : c ∉ [109]) : qAm382_X12_lays_68 n I A J t x1 A322 v322_2 v322_3 A354 v354_5 c = A354 c := (fr_itec rfl (fr_qAm433_X12_lays_68 (fr_subc rfl h)))
theorem fr_qAm366_X12_lays_68 {n : Nat} {I : Nat → Nat → Int32} {A : Nat → Nat → Int32} {J : Nat → Nat → Int64} {t : Bool × Bool} {x1 : Int32} {A322 : Nat → Nat → Int32} {v322_2 : Int32} {v322_3 : Int32} {A354 : Nat → Nat → Int32} {v354_5 : Int32} {c : Nat} (h : c ∉ [109]) : qAm366_X12_lays_68 n I A J t x1 A322 v322_2 v322_3 A354 v354_5 c = A354 c := (fr_itec rfl (fr_qAm382_X12_lays_68 (fr_subc rfl h)))
theorem fr_lp_X12_lays_68_354_c0 {n : Nat} {I : Nat → Nat → Int32} {A : Nat → Nat → Int32} {J : Nat → Nat → Int64} {t : Bool × Bool} {x1 : Int32} {A322 : Nat → Nat → Int32} {v322_2 : Int32} {v322_3 : Int32} {c : Nat} (h : c ∉ [109]) : ∀ (f : Nat) (A354 : Nat → Nat → Int32) (v354_5 : Int32), (lp_X12_lays_68_354 n I A J t x1 A322 v322_2 v322_3 f A354 v354_5).1 c = A354 c := by
  intro f
  induction f with
  | zero => intro _ _; rfl
  | succ f ih =>
    intro A354 v354_5
    unfold lp_X12_lays_68_354
    split
    · exact rfl
    · exact (ih _ _).trans (fr_qAm366_X12_lays_68 (fr_subc rfl h))
theorem fr_qAw354_X12_lays_68 {n : Nat} {I : Nat → Nat → Int32} {A : Nat → Nat → Int32} {J : Nat → Nat → Int64} {t : Bool × Bool} {x1 : Int32} {A322 : Nat → Nat → Int32} {v322_2 : Int32} {v322_3 : Int32} {c : Nat} (h : c ∉ [109]) : qAw354_X12_lays_68 n I A J t x1 A322 v322_2 v322_3 c = A322 c := ((fr_lp_X12_lays_68_354_c0 (fr_subc rfl h) _ _ _).trans (fr_qA345_X12_lays_68 (fr_subc rfl h)))
theorem fr_qA528_X12_lays_68 {n : Nat} {I : Nat → Nat → Int32} {A : Nat → Nat → Int32} {J : Nat → Nat → Int64} {t : Bool × Bool} {x1 : Int32} {A322 : Nat → Nat → Int32} {v322_2 : Int32} {v322_3 : Int32} {c : Nat} (h : c ∉ [109, 117]) : qA528_X12_lays_68 n I A J t x1 A322 v322_2 v322_3 c = A322 c := (fr_uc h (List.mem_of_getElem? (i := 1) rfl) (fr_qAw354_X12_lays_68 (fr_subc rfl h)))
theorem fr_qA547_X12_lays_68 {n : Nat} {I : Nat → Nat → Int32} {A : Nat → Nat → Int32} {J : Nat → Nat → Int64} {t : Bool × Bool} {x1 : Int32} {A322 : Nat → Nat → Int32} {v322_2 : Int32} {v322_3 : Int32} {c : Nat} (h : c ∉ [109, 110, 117]) : qA547_X12_lays_68 n I A J t x1 A322 v322_2 v322_3 c = A322 c := (fr_uc h (List.mem_of_getElem? (i := 1) rfl) (fr_qA528_X12_lays_68 (fr_subc rfl h)))
theorem fr_qA566_X12_lays_68 {n : Nat} {I : Nat → Nat → Int32} {A : Nat → Nat → Int32} {J : Nat → Nat → Int64} {t : Bool × Bool} {x1 : Int32} {A322 : Nat → Nat → Int32} {v322_2 : Int32} {v322_3 : Int32} {c : Nat} (h : c ∉ [109, 110, 111, 117]) : qA566_X12_lays_68 n I A J t x1 A322 v322_2 v322_3 c = A322 c := (fr_uc h (List.mem_of_getElem? (i := 2) rfl) (fr_qA547_X12_lays_68 (fr_subc rfl h)))
theorem fr_qA585_X12_lays_68 {n : Nat} {I : Nat → Nat → Int32} {A : Nat → Nat → Int32} {J : Nat → Nat → Int64} {t : Bool × Bool} {x1 : Int32} {A322 : Nat → Nat → Int32} {v322_2 : Int32} {v322_3 : Int32} {c : Nat} (h : c ∉ [109, 110, 111, 112, 117]) : qA585_X12_lays_68 n I A J t x1 A322 v322_2 v322_3 c = A322 c := (fr_uc h (List.mem_of_getElem? (i := 3) rfl) (fr_qA566_X12_lays_68 (fr_subc rfl h)))
theorem fr_qAm497_X12_lays_68 {n : Nat} {I : Nat → Nat → Int32} {A : Nat → Nat → Int32} {J : Nat → Nat → Int64} {t : Bool × Bool} {x1 : Int32} {A322 : Nat → Nat → Int32} {v322_2 : Int32} {v322_3 : Int32} {c : Nat} (h : c ∉ [109, 110, 111, 112, 117]) : qAm497_X12_lays_68 n I A J t x1 A322 v322_2 v322_3 c = A322 c := (fr_itec (fr_qAw354_X12_lays_68 (fr_subc rfl h)) (fr_qA585_X12_lays_68 (fr_subc rfl h)))
theorem fr_lp_X12_lays_68_322_c0 {n : Nat} {I : Nat → Nat → Int32} {A : Nat → Nat → Int32} {J : Nat → Nat → Int64} {t : Bool × Bool} {x1 : Int32} {c : Nat} (h : c ∉ [109, 110, 111, 112, 117]) : ∀ (f : Nat) (A322 : Nat → Nat → Int32) (v322_2 : Int32) (v322_3 : Int32), (lp_X12_lays_68_322 n I A J t x1 f A322 v322_2 v322_3).1 c = A322 c := by
  intro f
  induction f with
  | zero => intro _ _ _; rfl
  | succ f ih =>
    intro A322 v322_2 v322_3
    unfold lp_X12_lays_68_322
    split
    · exact rfl
    · exact (ih _ _ _).trans (fr_qAm497_X12_lays_68 (fr_subc rfl h))
theorem fr_qAw322_X12_lays_68 {n : Nat} {I : Nat → Nat → Int32} {A : Nat → Nat → Int32} {J : Nat → Nat → Int64} {t : Bool × Bool} {x1 : Int32} {c : Nat} (h : c ∉ [109, 110, 111, 112, 113, 117, 118, 119]) : qAw322_X12_lays_68 n I A J t x1 c = A c := ((fr_lp_X12_lays_68_322_c0 (fr_subc rfl h) _ _ _ _).trans (fr_qAw301_X12_lays_68 (fr_subc rfl h)))
theorem fr_pA_X12_lays_68 {n : Nat} {I : Nat → Nat → Int32} {A : Nat → Nat → Int32} {J : Nat → Nat → Int64} {t : Bool × Bool} {x1 : Int32} {c : Nat} (h : c ∉ [109, 110, 111, 112, 113, 117, 118, 119]) : pA_X12_lays_68 n I A J t x1 c = A c := (fr_qAw322_X12_lays_68 (fr_subc rfl h))
theorem fr_qA31_X12_schedule_68 {n : Nat} {I : Nat → Nat → Int32} {A : Nat → Nat → Int32} {J : Nat → Nat → Int64} {t : Bool × Bool} {x1 : Int32} {x2 : Int32} {A19 : Nat → Nat → Int32} {v19_3 : Int32} {c : Nat} (h : c ∉ [117]) : qA31_X12_schedule_68 n I A J t x1 x2 A19 v19_3 c = A19 c := (fr_uc h (List.mem_of_getElem? (i := 0) rfl) rfl)
theorem fr_lp_X12_schedule_68_19_c0 {n : Nat} {I : Nat → Nat → Int32} {A : Nat → Nat → Int32} {J : Nat → Nat → Int64} {t : Bool × Bool} {x1 : Int32} {x2 : Int32} {c : Nat} (h : c ∉ [117]) : ∀ (f : Nat) (A19 : Nat → Nat → Int32) (v19_3 : Int32), (lp_X12_schedule_68_19 n I A J t x1 x2 f A19 v19_3).1 c = A19 c := by
  intro f
  induction f with
  | zero => intro _ _; rfl
  | succ f ih =>
    intro A19 v19_3
    unfold lp_X12_schedule_68_19
    split
    · exact rfl
    · exact (ih _ _).trans (fr_qA31_X12_schedule_68 (fr_subc rfl h))
theorem fr_qAw19_X12_schedule_68 {n : Nat} {I : Nat → Nat → Int32} {A : Nat → Nat → Int32} {J : Nat → Nat → Int64} {t : Bool × Bool} {x1 : Int32} {x2 : Int32} {c : Nat} (h : c ∉ [117]) : qAw19_X12_schedule_68 n I A J t x1 x2 c = A c := (fr_lp_X12_schedule_68_19_c0 (fr_subc rfl h) _ _ _)
theorem fr_lp_X12_schedule_68_65_c0 {n : Nat} {I : Nat → Nat → Int32} {A : Nat → Nat → Int32} {J : Nat → Nat → Int64} {t : Bool × Bool} {x1 : Int32} {x2 : Int32} {I43 : Nat → Nat → Int32} {A43 : Nat → Nat → Int32} {v43_3 : Int32} {v43_4 : Int32} {I53 : Nat → Nat → Int32} {A53 : Nat → Nat → Int32} {v53_5 : Int32} {c k : Nat} (h : (c, k) ∉ [(68, 59), (68, 60), (68, 61)]) : ∀ (f : Nat) (I65 : Nat → Nat → Int32) (A65 : Nat → Nat → Int32) (v65_6 : Int32), (lp_X12_schedule_68_65 n I A J t x1 x2 I43 A43 v43_3 v43_4 I53 A53 v53_5 f I65 A65 v65_6).1 c k = I65 c k := by
  intro f
  induction f with
  | zero => intro _ _ _; rfl
  | succ f ih =>
    intro I65 A65 v65_6
    unfold lp_X12_schedule_68_65
    split
    · exact rfl
    · exact (ih _ _ _).trans (fr_pI_X12_fits_68 (fr_subp rfl h))
theorem fr_lp_X12_schedule_68_65_c1 {n : Nat} {I : Nat → Nat → Int32} {A : Nat → Nat → Int32} {J : Nat → Nat → Int64} {t : Bool × Bool} {x1 : Int32} {x2 : Int32} {I43 : Nat → Nat → Int32} {A43 : Nat → Nat → Int32} {v43_3 : Int32} {v43_4 : Int32} {I53 : Nat → Nat → Int32} {A53 : Nat → Nat → Int32} {v53_5 : Int32} {c : Nat} (h : c ∉ [107, 108, 114, 115, 116]) : ∀ (f : Nat) (I65 : Nat → Nat → Int32) (A65 : Nat → Nat → Int32) (v65_6 : Int32), (lp_X12_schedule_68_65 n I A J t x1 x2 I43 A43 v43_3 v43_4 I53 A53 v53_5 f I65 A65 v65_6).2.1 c = A65 c := by
  intro f
  induction f with
  | zero => intro _ _ _; rfl
  | succ f ih =>
    intro I65 A65 v65_6
    unfold lp_X12_schedule_68_65
    split
    · exact rfl
    · exact (ih _ _ _).trans (fr_pA_X12_fits_68 (fr_subc rfl h))
theorem fr_qIw65_X12_schedule_68 {n : Nat} {I : Nat → Nat → Int32} {A : Nat → Nat → Int32} {J : Nat → Nat → Int64} {t : Bool × Bool} {x1 : Int32} {x2 : Int32} {I43 : Nat → Nat → Int32} {A43 : Nat → Nat → Int32} {v43_3 : Int32} {v43_4 : Int32} {I53 : Nat → Nat → Int32} {A53 : Nat → Nat → Int32} {v53_5 : Int32} {c k : Nat} (h : (c, k) ∉ [(68, 59), (68, 60), (68, 61)]) : qIw65_X12_schedule_68 n I A J t x1 x2 I43 A43 v43_3 v43_4 I53 A53 v53_5 c k = I53 c k := (fr_lp_X12_schedule_68_65_c0 (fr_subp rfl h) _ _ _ _)
theorem fr_qAw65_X12_schedule_68 {n : Nat} {I : Nat → Nat → Int32} {A : Nat → Nat → Int32} {J : Nat → Nat → Int64} {t : Bool × Bool} {x1 : Int32} {x2 : Int32} {I43 : Nat → Nat → Int32} {A43 : Nat → Nat → Int32} {v43_3 : Int32} {v43_4 : Int32} {I53 : Nat → Nat → Int32} {A53 : Nat → Nat → Int32} {v53_5 : Int32} {c : Nat} (h : c ∉ [107, 108, 114, 115, 116]) : qAw65_X12_schedule_68 n I A J t x1 x2 I43 A43 v43_3 v43_4 I53 A53 v53_5 c = A53 c := (fr_lp_X12_schedule_68_65_c1 (fr_subc rfl h) _ _ _ _)
theorem fr_lp_X12_schedule_68_53_c0 {n : Nat} {I : Nat → Nat → Int32} {A : Nat → Nat → Int32} {J : Nat → Nat → Int64} {t : Bool × Bool} {x1 : Int32} {x2 : Int32} {I43 : Nat → Nat → Int32} {A43 : Nat → Nat → Int32} {v43_3 : Int32} {v43_4 : Int32} {c k : Nat} (h : (c, k) ∉ [(68, 59), (68, 60), (68, 61)]) : ∀ (f : Nat) (I53 : Nat → Nat → Int32) (A53 : Nat → Nat → Int32) (v53_5 : Int32), (lp_X12_schedule_68_53 n I A J t x1 x2 I43 A43 v43_3 v43_4 f I53 A53 v53_5).1 c k = I53 c k := by
  intro f
  induction f with
  | zero => intro _ _ _; rfl
  | succ f ih =>
    intro I53 A53 v53_5
    unfold lp_X12_schedule_68_53
    split
    · exact rfl
    · exact (ih _ _ _).trans (fr_qIw65_X12_schedule_68 (fr_subp rfl h))
theorem fr_lp_X12_schedule_68_53_c1 {n : Nat} {I : Nat → Nat → Int32} {A : Nat → Nat → Int32} {J : Nat → Nat → Int64} {t : Bool × Bool} {x1 : Int32} {x2 : Int32} {I43 : Nat → Nat → Int32} {A43 : Nat → Nat → Int32} {v43_3 : Int32} {v43_4 : Int32} {c : Nat} (h : c ∉ [107, 108, 114, 115, 116]) : ∀ (f : Nat) (I53 : Nat → Nat → Int32) (A53 : Nat → Nat → Int32) (v53_5 : Int32), (lp_X12_schedule_68_53 n I A J t x1 x2 I43 A43 v43_3 v43_4 f I53 A53 v53_5).2.1 c = A53 c := by
  intro f
  induction f with
  | zero => intro _ _ _; rfl
  | succ f ih =>
    intro I53 A53 v53_5
    unfold lp_X12_schedule_68_53
    split
    · exact rfl
    · exact (ih _ _ _).trans (fr_qAw65_X12_schedule_68 (fr_subc rfl h))
theorem fr_qIw53_X12_schedule_68 {n : Nat} {I : Nat → Nat → Int32} {A : Nat → Nat → Int32} {J : Nat → Nat → Int64} {t : Bool × Bool} {x1 : Int32} {x2 : Int32} {I43 : Nat → Nat → Int32} {A43 : Nat → Nat → Int32} {v43_3 : Int32} {v43_4 : Int32} {c k : Nat} (h : (c, k) ∉ [(68, 59), (68, 60), (68, 61)]) : qIw53_X12_schedule_68 n I A J t x1 x2 I43 A43 v43_3 v43_4 c k = I43 c k := (fr_lp_X12_schedule_68_53_c0 (fr_subp rfl h) _ _ _ _)
theorem fr_qAw53_X12_schedule_68 {n : Nat} {I : Nat → Nat → Int32} {A : Nat → Nat → Int32} {J : Nat → Nat → Int64} {t : Bool × Bool} {x1 : Int32} {x2 : Int32} {I43 : Nat → Nat → Int32} {A43 : Nat → Nat → Int32} {v43_3 : Int32} {v43_4 : Int32} {c : Nat} (h : c ∉ [107, 108, 114, 115, 116]) : qAw53_X12_schedule_68 n I A J t x1 x2 I43 A43 v43_3 v43_4 c = A43 c := (fr_lp_X12_schedule_68_53_c1 (fr_subc rfl h) _ _ _ _)
theorem fr_lp_X12_schedule_68_43_c0 {n : Nat} {I : Nat → Nat → Int32} {A : Nat → Nat → Int32} {J : Nat → Nat → Int64} {t : Bool × Bool} {x1 : Int32} {x2 : Int32} {c k : Nat} (h : (c, k) ∉ [(68, 59), (68, 60), (68, 61)]) : ∀ (f : Nat) (I43 : Nat → Nat → Int32) (A43 : Nat → Nat → Int32) (v43_3 : Int32) (v43_4 : Int32), (lp_X12_schedule_68_43 n I A J t x1 x2 f I43 A43 v43_3 v43_4).1 c k = I43 c k := by
  intro f
  induction f with
  | zero => intro _ _ _ _; rfl
  | succ f ih =>
    intro I43 A43 v43_3 v43_4
    unfold lp_X12_schedule_68_43
    split
    · exact rfl
    · exact (ih _ _ _ _).trans (fr_qIw53_X12_schedule_68 (fr_subp rfl h))
theorem fr_lp_X12_schedule_68_43_c1 {n : Nat} {I : Nat → Nat → Int32} {A : Nat → Nat → Int32} {J : Nat → Nat → Int64} {t : Bool × Bool} {x1 : Int32} {x2 : Int32} {c : Nat} (h : c ∉ [107, 108, 109, 110, 111, 112, 113, 114, 115, 116, 117, 118, 119]) : ∀ (f : Nat) (I43 : Nat → Nat → Int32) (A43 : Nat → Nat → Int32) (v43_3 : Int32) (v43_4 : Int32), (lp_X12_schedule_68_43 n I A J t x1 x2 f I43 A43 v43_3 v43_4).2.1 c = A43 c := by
  intro f
  induction f with
  | zero => intro _ _ _ _; rfl
  | succ f ih =>
    intro I43 A43 v43_3 v43_4
    unfold lp_X12_schedule_68_43
    split
    · exact rfl
    · exact (ih _ _ _ _).trans ((fr_pA_X12_lays_68 (fr_subc rfl h)).trans (fr_qAw53_X12_schedule_68 (fr_subc rfl h)))
theorem fr_qIw43_X12_schedule_68 {n : Nat} {I : Nat → Nat → Int32} {A : Nat → Nat → Int32} {J : Nat → Nat → Int64} {t : Bool × Bool} {x1 : Int32} {x2 : Int32} {c k : Nat} (h : (c, k) ∉ [(68, 59), (68, 60), (68, 61)]) : qIw43_X12_schedule_68 n I A J t x1 x2 c k = I c k := (fr_lp_X12_schedule_68_43_c0 (fr_subp rfl h) _ _ _ _ _)
theorem fr_qAw43_X12_schedule_68 {n : Nat} {I : Nat → Nat → Int32} {A : Nat → Nat → Int32} {J : Nat → Nat → Int64} {t : Bool × Bool} {x1 : Int32} {x2 : Int32} {c : Nat} (h : c ∉ [107, 108, 109, 110, 111, 112, 113, 114, 115, 116, 117, 118, 119]) : qAw43_X12_schedule_68 n I A J t x1 x2 c = A c := ((fr_lp_X12_schedule_68_43_c1 (fr_subc rfl h) _ _ _ _ _).trans (fr_qAw19_X12_schedule_68 (fr_subc rfl h)))
theorem fr_qI122_X12_schedule_68 {n : Nat} {I : Nat → Nat → Int32} {A : Nat → Nat → Int32} {J : Nat → Nat → Int64} {t : Bool × Bool} {x1 : Int32} {x2 : Int32} {c k : Nat} (h : (c, k) ∉ [(68, 59), (68, 60), (68, 61), (68, 64)]) : qI122_X12_schedule_68 n I A J t x1 x2 c k = I c k := (fr_up h (List.mem_of_getElem? (i := 3) rfl) (fr_qIw43_X12_schedule_68 (fr_subp rfl h)))
theorem fr_qI130_X12_schedule_68 {n : Nat} {I : Nat → Nat → Int32} {A : Nat → Nat → Int32} {J : Nat → Nat → Int64} {t : Bool × Bool} {x1 : Int32} {x2 : Int32} {c k : Nat} (h : (c, k) ∉ [(68, 59), (68, 60), (68, 61), (68, 64), (68, 65)]) : qI130_X12_schedule_68 n I A J t x1 x2 c k = I c k := (fr_up h (List.mem_of_getElem? (i := 4) rfl) (fr_qI122_X12_schedule_68 (fr_subp rfl h)))
theorem fr_pI_X12_schedule_68 {n : Nat} {I : Nat → Nat → Int32} {A : Nat → Nat → Int32} {J : Nat → Nat → Int64} {t : Bool × Bool} {x1 : Int32} {x2 : Int32} {c k : Nat} (h : (c, k) ∉ [(68, 59), (68, 60), (68, 61), (68, 64), (68, 65)]) : pI_X12_schedule_68 n I A J t x1 x2 c k = I c k := (fr_itep rfl (fr_itep rfl (fr_qI130_X12_schedule_68 (fr_subp rfl h))))
theorem fr_pA_X12_schedule_68 {n : Nat} {I : Nat → Nat → Int32} {A : Nat → Nat → Int32} {J : Nat → Nat → Int64} {t : Bool × Bool} {x1 : Int32} {x2 : Int32} {c : Nat} (h : c ∉ [107, 108, 109, 110, 111, 112, 113, 114, 115, 116, 117, 118, 119]) : pA_X12_schedule_68 n I A J t x1 x2 c = A c := (fr_itec rfl (fr_itec rfl (fr_qAw43_X12_schedule_68 (fr_subc rfl h))))
theorem fr_qA29_X11_append_0 {n : Nat} {I : Nat → Nat → Int32} {A : Nat → Nat → Int32} {J : Nat → Nat → Int64} {t : Bool × Bool} {x1 : Int32} {I3 : Nat → Nat → Int32} {A3 : Nat → Nat → Int32} {v3_2 : Int32} {c : Nat} (h : c ∉ [32]) : qA29_X11_append_0 n I A J t x1 I3 A3 v3_2 c = A3 c := (fr_uc h (List.mem_of_getElem? (i := 0) rfl) rfl)
theorem fr_qI37_X11_append_0 {n : Nat} {I : Nat → Nat → Int32} {A : Nat → Nat → Int32} {J : Nat → Nat → Int64} {t : Bool × Bool} {x1 : Int32} {I3 : Nat → Nat → Int32} {A3 : Nat → Nat → Int32} {v3_2 : Int32} {c k : Nat} (h : (c, k) ∉ [(0, 13)]) : qI37_X11_append_0 n I A J t x1 I3 A3 v3_2 c k = I3 c k := (fr_up h (List.mem_of_getElem? (i := 0) rfl) rfl)
theorem fr_lp_X11_append_0_3_c0 {n : Nat} {I : Nat → Nat → Int32} {A : Nat → Nat → Int32} {J : Nat → Nat → Int64} {t : Bool × Bool} {x1 : Int32} {c k : Nat} (h : (c, k) ∉ [(0, 13)]) : ∀ (f : Nat) (I3 : Nat → Nat → Int32) (A3 : Nat → Nat → Int32) (v3_2 : Int32), (lp_X11_append_0_3 n I A J t x1 f I3 A3 v3_2).1 c k = I3 c k := by
  intro f
  induction f with
  | zero => intro _ _ _; rfl
  | succ f ih =>
    intro I3 A3 v3_2
    unfold lp_X11_append_0_3
    split
    · exact rfl
    · split
      · exact rfl
      · exact (ih _ _ _).trans (fr_qI37_X11_append_0 (fr_subp rfl h))
theorem fr_lp_X11_append_0_3_c1 {n : Nat} {I : Nat → Nat → Int32} {A : Nat → Nat → Int32} {J : Nat → Nat → Int64} {t : Bool × Bool} {x1 : Int32} {c : Nat} (h : c ∉ [32]) : ∀ (f : Nat) (I3 : Nat → Nat → Int32) (A3 : Nat → Nat → Int32) (v3_2 : Int32), (lp_X11_append_0_3 n I A J t x1 f I3 A3 v3_2).2.1 c = A3 c := by
  intro f
  induction f with
  | zero => intro _ _ _; rfl
  | succ f ih =>
    intro I3 A3 v3_2
    unfold lp_X11_append_0_3
    split
    · exact rfl
    · split
      · exact rfl
      · exact (ih _ _ _).trans (fr_qA29_X11_append_0 (fr_subc rfl h))
theorem fr_qIw3_X11_append_0 {n : Nat} {I : Nat → Nat → Int32} {A : Nat → Nat → Int32} {J : Nat → Nat → Int64} {t : Bool × Bool} {x1 : Int32} {c k : Nat} (h : (c, k) ∉ [(0, 13)]) : qIw3_X11_append_0 n I A J t x1 c k = I c k := (fr_lp_X11_append_0_3_c0 (fr_subp rfl h) _ _ _ _)
theorem fr_qAw3_X11_append_0 {n : Nat} {I : Nat → Nat → Int32} {A : Nat → Nat → Int32} {J : Nat → Nat → Int64} {t : Bool × Bool} {x1 : Int32} {c : Nat} (h : c ∉ [32]) : qAw3_X11_append_0 n I A J t x1 c = A c := (fr_lp_X11_append_0_3_c1 (fr_subc rfl h) _ _ _ _)
theorem fr_pI_X11_append_0 {n : Nat} {I : Nat → Nat → Int32} {A : Nat → Nat → Int32} {J : Nat → Nat → Int64} {t : Bool × Bool} {x1 : Int32} {c k : Nat} (h : (c, k) ∉ [(0, 13)]) : pI_X11_append_0 n I A J t x1 c k = I c k := (fr_qIw3_X11_append_0 (fr_subp rfl h))
theorem fr_pA_X11_append_0 {n : Nat} {I : Nat → Nat → Int32} {A : Nat → Nat → Int32} {J : Nat → Nat → Int64} {t : Bool × Bool} {x1 : Int32} {c : Nat} (h : c ∉ [32]) : pA_X11_append_0 n I A J t x1 c = A c := (fr_qAw3_X11_append_0 (fr_subc rfl h))
theorem fr_pI_X11_feed_0 {n : Nat} {I : Nat → Nat → Int32} {A : Nat → Nat → Int32} {J : Nat → Nat → Int64} {t : Bool × Bool} {x1 : Int32} {x2 : Int32} {x3 : Int32} {x4 : Int32} {x5 : Int32} {c k : Nat} (h : (c, k) ∉ [(0, 13)]) : pI_X11_feed_0 n I A J t x1 x2 x3 x4 x5 c k = I c k := (fr_itep ((fr_pI_X11_append_0 (fr_subp rfl h)).trans ((fr_pI_X11_append_0 (fr_subp rfl h)).trans ((fr_pI_X11_append_0 (fr_subp rfl h)).trans ((fr_pI_X11_append_0 (fr_subp rfl h)).trans (fr_pI_X11_append_0 (fr_subp rfl h)))))) rfl)
theorem fr_pA_X11_feed_0 {n : Nat} {I : Nat → Nat → Int32} {A : Nat → Nat → Int32} {J : Nat → Nat → Int64} {t : Bool × Bool} {x1 : Int32} {x2 : Int32} {x3 : Int32} {x4 : Int32} {x5 : Int32} {c : Nat} (h : c ∉ [32]) : pA_X11_feed_0 n I A J t x1 x2 x3 x4 x5 c = A c := (fr_itec ((fr_pA_X11_append_0 (fr_subc rfl h)).trans ((fr_pA_X11_append_0 (fr_subc rfl h)).trans ((fr_pA_X11_append_0 (fr_subc rfl h)).trans ((fr_pA_X11_append_0 (fr_subc rfl h)).trans (fr_pA_X11_append_0 (fr_subc rfl h)))))) rfl)
theorem fr_qI21_X11_back_0 {n : Nat} {I : Nat → Nat → Int32} {A : Nat → Nat → Int32} {J : Nat → Nat → Int64} {t : Bool × Bool} {x1 : Int32} {c k : Nat} (h : (c, k) ∉ [(0, 13)]) : qI21_X11_back_0 n I A J t x1 c k = I c k := (fr_up h (List.mem_of_getElem? (i := 0) rfl) rfl)
theorem fr_pI_X11_back_0 {n : Nat} {I : Nat → Nat → Int32} {A : Nat → Nat → Int32} {J : Nat → Nat → Int64} {t : Bool × Bool} {x1 : Int32} {c k : Nat} (h : (c, k) ∉ [(0, 13)]) : pI_X11_back_0 n I A J t x1 c k = I c k := (fr_itep rfl (fr_itep (fr_qI21_X11_back_0 (fr_subp rfl h)) rfl))
theorem fr_qIm34_X11_ground_0 {n : Nat} {I : Nat → Nat → Int32} {A : Nat → Nat → Int32} {J : Nat → Nat → Int64} {t : Bool × Bool} {x1 : Int32} {x2 : Int32} {x3 : Int32} {c k : Nat} (h : (c, k) ∉ [(1, 3), (5, 3)]) : qIm34_X11_ground_0 n I A J t x1 x2 x3 c k = I c k := (fr_itep (fr_pI_X9_add_5 (fr_subp rfl h)) (fr_pI_X9_add_1 (fr_subp rfl h)))
theorem fr_qAm34_X11_ground_0 {n : Nat} {I : Nat → Nat → Int32} {A : Nat → Nat → Int32} {J : Nat → Nat → Int64} {t : Bool × Bool} {x1 : Int32} {x2 : Int32} {x3 : Int32} {c : Nat} (h : c ∉ [2, 3, 4, 6, 7, 8]) : qAm34_X11_ground_0 n I A J t x1 x2 x3 c = A c := (fr_itec (fr_pA_X9_add_5 (fr_subc rfl h)) (fr_pA_X9_add_1 (fr_subc rfl h)))
theorem fr_pI_X11_ground_0 {n : Nat} {I : Nat → Nat → Int32} {A : Nat → Nat → Int32} {J : Nat → Nat → Int64} {t : Bool × Bool} {x1 : Int32} {x2 : Int32} {x3 : Int32} {c k : Nat} (h : (c, k) ∉ [(1, 3), (5, 3)]) : pI_X11_ground_0 n I A J t x1 x2 x3 c k = I c k := (fr_itep rfl (fr_itep rfl (fr_itep rfl (fr_itep rfl (fr_itep rfl (fr_itep (fr_qIm34_X11_ground_0 (fr_subp rfl h)) rfl))))))
theorem fr_pA_X11_ground_0 {n : Nat} {I : Nat → Nat → Int32} {A : Nat → Nat → Int32} {J : Nat → Nat → Int64} {t : Bool × Bool} {x1 : Int32} {x2 : Int32} {x3 : Int32} {c : Nat} (h : c ∉ [2, 3, 4, 6, 7, 8]) : pA_X11_ground_0 n I A J t x1 x2 x3 c = A c := (fr_itec rfl (fr_itec rfl (fr_itec rfl (fr_itec rfl (fr_itec rfl (fr_itec (fr_qAm34_X11_ground_0 (fr_subc rfl h)) rfl))))))
theorem fr_pI_X11_mast_0 {n : Nat} {I : Nat → Nat → Int32} {A : Nat → Nat → Int32} {J : Nat → Nat → Int64} {t : Bool × Bool} {x1 : Int32} {x2 : Int32} {c k : Nat} (h : (c, k) ∉ [(9, 2)]) : pI_X11_mast_0 n I A J t x1 x2 c k = I c k := (fr_itep rfl (fr_itep rfl (fr_itep (fr_pI_X2_add_9 (fr_subp rfl h)) rfl)))
theorem fr_pA_X11_mast_0 {n : Nat} {I : Nat → Nat → Int32} {A : Nat → Nat → Int32} {J : Nat → Nat → Int64} {t : Bool × Bool} {x1 : Int32} {x2 : Int32} {c : Nat} (h : c ∉ [10, 11]) : pA_X11_mast_0 n I A J t x1 x2 c = A c := (fr_itec rfl (fr_itec rfl (fr_itec (fr_pA_X2_add_9 (fr_subc rfl h)) rfl)))
theorem fr_pI_X11_programme_0 {n : Nat} {I : Nat → Nat → Int32} {A : Nat → Nat → Int32} {J : Nat → Nat → Int64} {t : Bool × Bool} {x1 : Int32} {x2 : Int32} {x3 : Int32} {c k : Nat} (h : (c, k) ∉ [(12, 3)]) : pI_X11_programme_0 n I A J t x1 x2 x3 c k = I c k := (fr_itep rfl (fr_itep rfl (fr_pI_X6_add_12 (fr_subp rfl h))))
theorem fr_pA_X11_programme_0 {n : Nat} {I : Nat → Nat → Int32} {A : Nat → Nat → Int32} {J : Nat → Nat → Int64} {t : Bool × Bool} {x1 : Int32} {x2 : Int32} {x3 : Int32} {c : Nat} (h : c ∉ [13, 14, 15]) : pA_X11_programme_0 n I A J t x1 x2 x3 c = A c := (fr_itec rfl (fr_itec rfl (fr_pA_X6_add_12 (fr_subc rfl h))))
theorem fr_pA_X11_sheet_0 {n : Nat} {I : Nat → Nat → Int32} {A : Nat → Nat → Int32} {J : Nat → Nat → Int64} {t : Bool × Bool} {x1 : Int32} {x2 : Int32} {c : Nat} (h : c ∉ [17, 18]) : pA_X11_sheet_0 n I A J t x1 x2 c = A c := (fr_itec rfl (fr_itec rfl (fr_itec rfl (fr_itec (fr_pA_X8_renew_16 (fr_subc rfl h)) rfl))))
theorem fr_pA_X11_cell_0 {n : Nat} {I : Nat → Nat → Int32} {A : Nat → Nat → Int32} {J : Nat → Nat → Int64} {t : Bool × Bool} {x1 : Int32} {x2 : Int32} {x3 : Int32} {c : Nat} (h : c ∉ [17]) : pA_X11_cell_0 n I A J t x1 x2 x3 c = A c := (fr_itec rfl (fr_itec rfl (fr_itec rfl (fr_itec rfl (fr_pA_X8_put_16 (fr_subc rfl h))))))
theorem fr_qI19_X11_clock_0 {n : Nat} {I : Nat → Nat → Int32} {A : Nat → Nat → Int32} {J : Nat → Nat → Int64} {t : Bool × Bool} {x1 : Int32} {c k : Nat} (h : (c, k) ∉ [(0, 14)]) : qI19_X11_clock_0 n I A J t x1 c k = I c k := (fr_up h (List.mem_of_getElem? (i := 0) rfl) rfl)
theorem fr_pI_X11_clock_0 {n : Nat} {I : Nat → Nat → Int32} {A : Nat → Nat → Int32} {J : Nat → Nat → Int64} {t : Bool × Bool} {x1 : Int32} {c k : Nat} (h : (c, k) ∉ [(0, 14)]) : pI_X11_clock_0 n I A J t x1 c k = I c k := (fr_itep rfl (fr_itep (fr_qI19_X11_clock_0 (fr_subp rfl h)) rfl))
theorem fr_pI_X11_report_0 {n : Nat} {I : Nat → Nat → Int32} {A : Nat → Nat → Int32} {J : Nat → Nat → Int64} {t : Bool × Bool} {x1 : Int32} {x2 : Int32} {x3 : Int32} {x4 : Int32} {x5 : Int32} {c k : Nat} (h : (c, k) ∉ [(19, 9)]) : pI_X11_report_0 n I A J t x1 x2 x3 x4 x5 c k = I c k := (fr_itep rfl (fr_itep rfl (fr_itep rfl (fr_pI_X1_addReport_19 (fr_subp rfl h)))))
theorem fr_pA_X11_report_0 {n : Nat} {I : Nat → Nat → Int32} {A : Nat → Nat → Int32} {J : Nat → Nat → Int64} {t : Bool × Bool} {x1 : Int32} {x2 : Int32} {x3 : Int32} {x4 : Int32} {x5 : Int32} {c : Nat} (h : c ∉ [20, 21, 22, 23, 24, 25, 26]) : pA_X11_report_0 n I A J t x1 x2 x3 x4 x5 c = A c := (fr_itec rfl (fr_itec rfl (fr_itec rfl (fr_pA_X1_addReport_19 (fr_subc rfl h)))))
theorem fr_pI_X11_notice_0 {n : Nat} {I : Nat → Nat → Int32} {A : Nat → Nat → Int32} {J : Nat → Nat → Int64} {t : Bool × Bool} {x1 : Int32} {x2 : Int32} {x3 : Int32} {x4 : Int32} {x5 : Int32} {c k : Nat} (h : (c, k) ∉ [(19, 9)]) : pI_X11_notice_0 n I A J t x1 x2 x3 x4 x5 c k = I c k := (fr_itep rfl (fr_itep rfl (fr_itep rfl (fr_itep rfl (fr_pI_X1_addNotice_19 (fr_subp rfl h))))))
theorem fr_pA_X11_notice_0 {n : Nat} {I : Nat → Nat → Int32} {A : Nat → Nat → Int32} {J : Nat → Nat → Int64} {t : Bool × Bool} {x1 : Int32} {x2 : Int32} {x3 : Int32} {x4 : Int32} {x5 : Int32} {c : Nat} (h : c ∉ [20, 21, 22, 23, 24, 25, 27, 28]) : pA_X11_notice_0 n I A J t x1 x2 x3 x4 x5 c = A c := (fr_itec rfl (fr_itec rfl (fr_itec rfl (fr_itec rfl (fr_pA_X1_addNotice_19 (fr_subc rfl h))))))
theorem fr_qAm75_X11_learnReport_0 {n : Nat} {I : Nat → Nat → Int32} {A : Nat → Nat → Int32} {J : Nat → Nat → Int64} {t : Bool × Bool} {x1 : Int32} {c : Nat} (h : c ∉ [30, 31]) : qAm75_X11_learnReport_0 n I A J t x1 c = A c := (fr_itec rfl (fr_pA_X0_add_29 (fr_subc rfl h)))
theorem fr_pA_X11_learnReport_0 {n : Nat} {I : Nat → Nat → Int32} {A : Nat → Nat → Int32} {J : Nat → Nat → Int64} {t : Bool × Bool} {x1 : Int32} {c : Nat} (h : c ∉ [30, 31]) : pA_X11_learnReport_0 n I A J t x1 c = A c := (fr_qAm75_X11_learnReport_0 (fr_subc rfl h))
theorem fr_qAm22_X11_learn_0 {n : Nat} {I : Nat → Nat → Int32} {A : Nat → Nat → Int32} {J : Nat → Nat → Int64} {t : Bool × Bool} {x1 : Int32} {A9 : Nat → Nat → Int32} {v9_2 : Int32} {c : Nat} (h : c ∉ [30, 31]) : qAm22_X11_learn_0 n I A J t x1 A9 v9_2 c = A9 c := (fr_itec (fr_pA_X11_learnReport_0 (fr_subc rfl h)) rfl)
theorem fr_lp_X11_learn_0_9_c0 {n : Nat} {I : Nat → Nat → Int32} {A : Nat → Nat → Int32} {J : Nat → Nat → Int64} {t : Bool × Bool} {x1 : Int32} {c : Nat} (h : c ∉ [30, 31]) : ∀ (f : Nat) (A9 : Nat → Nat → Int32) (v9_2 : Int32), (lp_X11_learn_0_9 n I A J t x1 f A9 v9_2).1 c = A9 c := by
  intro f
  induction f with
  | zero => intro _ _; rfl
  | succ f ih =>
    intro A9 v9_2
    unfold lp_X11_learn_0_9
    split
    · exact rfl
    · exact (ih _ _).trans (fr_qAm22_X11_learn_0 (fr_subc rfl h))
theorem fr_qAw9_X11_learn_0 {n : Nat} {I : Nat → Nat → Int32} {A : Nat → Nat → Int32} {J : Nat → Nat → Int64} {t : Bool × Bool} {x1 : Int32} {c : Nat} (h : c ∉ [30, 31]) : qAw9_X11_learn_0 n I A J t x1 c = A c := ((fr_lp_X11_learn_0_9_c0 (fr_subc rfl h) _ _ _).trans (fr_pA_X0_renew_29 (fr_subc rfl h)))
theorem fr_pA_X11_learn_0 {n : Nat} {I : Nat → Nat → Int32} {A : Nat → Nat → Int32} {J : Nat → Nat → Int64} {t : Bool × Bool} {x1 : Int32} {c : Nat} (h : c ∉ [30, 31]) : pA_X11_learn_0 n I A J t x1 c = A c := (fr_qAw9_X11_learn_0 (fr_subc rfl h))
theorem fr_pA_X11_correction_0 {n : Nat} {I : Nat → Nat → Int32} {A : Nat → Nat → Int32} {J : Nat → Nat → Int64} {t : Bool × Bool} {x1 : Int32} {x2 : Int32} {x3 : Int32} {x4 : Int32} {c : Nat} (h : c ∉ [30, 31]) : pA_X11_correction_0 n I A J t x1 x2 x3 x4 c = A c := (fr_itec rfl (fr_itec rfl (fr_pA_X11_learn_0 (fr_subc rfl h))))
theorem fr_pA_X11_strength_0 {n : Nat} {I : Nat → Nat → Int32} {A : Nat → Nat → Int32} {J : Nat → Nat → Int64} {t : Bool × Bool} {x1 : Int32} {x2 : Int32} {x3 : Int32} {x4 : Int32} {x5 : Int32} {x6 : Int32} {c : Nat} (h : c ∉ [30, 31]) : pA_X11_strength_0 n I A J t x1 x2 x3 x4 x5 x6 c = A c := (fr_itec rfl (fr_itec rfl (fr_pA_X11_learn_0 (fr_subc rfl h))))
theorem fr_qAm24_X11_settle_0 {n : Nat} {I : Nat → Nat → Int32} {A : Nat → Nat → Int32} {J : Nat → Nat → Int64} {t : Bool × Bool} {x1 : Int32} {A2 : Nat → Nat → Int32} {v2_2 : Int32} {c : Nat} (h : c ∉ [54, 55, 56, 57, 58, 59]) : qAm24_X11_settle_0 n I A J t x1 A2 v2_2 c = A2 c := (fr_itec rfl ((fr_pA_X5_addListeners_53 (fr_subc rfl h)).trans (fr_pA_X5_put_53 (fr_subc rfl h))))
theorem fr_lp_X11_settle_0_2_c0 {n : Nat} {I : Nat → Nat → Int32} {A : Nat → Nat → Int32} {J : Nat → Nat → Int64} {t : Bool × Bool} {x1 : Int32} {c : Nat} (h : c ∉ [54, 55, 56, 57, 58, 59]) : ∀ (f : Nat) (A2 : Nat → Nat → Int32) (v2_2 : Int32), (lp_X11_settle_0_2 n I A J t x1 f A2 v2_2).1 c = A2 c := by
  intro f
  induction f with
  | zero => intro _ _; rfl
  | succ f ih =>
    intro A2 v2_2
    unfold lp_X11_settle_0_2
    split
    · exact rfl
    · exact (ih _ _).trans (fr_qAm24_X11_settle_0 (fr_subc rfl h))
theorem fr_qAw2_X11_settle_0 {n : Nat} {I : Nat → Nat → Int32} {A : Nat → Nat → Int32} {J : Nat → Nat → Int64} {t : Bool × Bool} {x1 : Int32} {c : Nat} (h : c ∉ [54, 55, 56, 57, 58, 59]) : qAw2_X11_settle_0 n I A J t x1 c = A c := (fr_lp_X11_settle_0_2_c0 (fr_subc rfl h) _ _ _)
theorem fr_pA_X11_settle_0 {n : Nat} {I : Nat → Nat → Int32} {A : Nat → Nat → Int32} {J : Nat → Nat → Int64} {t : Bool × Bool} {x1 : Int32} {c : Nat} (h : c ∉ [54, 55, 56, 57, 58, 59]) : pA_X11_settle_0 n I A J t x1 c = A c := (fr_qAw2_X11_settle_0 (fr_subc rfl h))
theorem fr_qI18_X11_read_0_tFx {n : Nat} {I : Nat → Nat → Int32} {A : Nat → Nat → Int32} {J : Nat → Nat → Int64} {t : Bool × Bool} {c k : Nat} (h : (c, k) ∉ [(0, 13), (33, 3), (33, 4), (33, 5), (33, 6), (33, 7), (33, 8), (33, 9), (33, 10), (33, 11), (34, 1), (34, 2), (34, 3), (34, 4), (34, 5), (37, 7), (37, 8)]) : qI18_X11_read_0_tFx n I A J t c k = I c k := (fr_up h (List.mem_of_getElem? (i := 0) rfl) (fr_pI_X4_parse_33_32_tFx (fr_subp rfl h)))
theorem fr_pI_X11_read_0_tFx {n : Nat} {I : Nat → Nat → Int32} {A : Nat → Nat → Int32} {J : Nat → Nat → Int64} {t : Bool × Bool} {c k : Nat} (h : (c, k) ∉ [(0, 13), (33, 3), (33, 4), (33, 5), (33, 6), (33, 7), (33, 8), (33, 9), (33, 10), (33, 11), (34, 1), (34, 2), (34, 3), (34, 4), (34, 5), (37, 7), (37, 8)]) : pI_X11_read_0_tFx n I A J t c k = I c k := (fr_qI18_X11_read_0_tFx (fr_subp rfl h))
theorem fr_pA_X11_read_0_tFx {n : Nat} {I : Nat → Nat → Int32} {A : Nat → Nat → Int32} {J : Nat → Nat → Int64} {t : Bool × Bool} {c : Nat} (h : c ∉ [36, 38, 39, 40, 41, 42, 43]) : pA_X11_read_0_tFx n I A J t c = A c := (fr_pA_X4_parse_33_32_tFx (fr_subc rfl h))
theorem fr_qA6_X11_decidingRule_0_tFx {n : Nat} {I : Nat → Nat → Int32} {A : Nat → Nat → Int32} {J : Nat → Nat → Int64} {t : Bool × Bool} {x1 : Int32} {x2 : Int32} {x3 : Int32} {x4 : Int32} {x5 : Int32} {x6 : Int32} {c : Nat} (h : c ∉ [45]) : qA6_X11_decidingRule_0_tFx n I A J t x1 x2 x3 x4 x5 x6 c = A c := (fr_uc h (List.mem_of_getElem? (i := 0) rfl) rfl)
theorem fr_qA14_X11_decidingRule_0_tFx {n : Nat} {I : Nat → Nat → Int32} {A : Nat → Nat → Int32} {J : Nat → Nat → Int64} {t : Bool × Bool} {x1 : Int32} {x2 : Int32} {x3 : Int32} {x4 : Int32} {x5 : Int32} {x6 : Int32} {c : Nat} (h : c ∉ [45]) : qA14_X11_decidingRule_0_tFx n I A J t x1 x2 x3 x4 x5 x6 c = A c := (fr_uc h (List.mem_of_getElem? (i := 0) rfl) (fr_qA6_X11_decidingRule_0_tFx (fr_subc rfl h)))
theorem fr_qA22_X11_decidingRule_0_tFx {n : Nat} {I : Nat → Nat → Int32} {A : Nat → Nat → Int32} {J : Nat → Nat → Int64} {t : Bool × Bool} {x1 : Int32} {x2 : Int32} {x3 : Int32} {x4 : Int32} {x5 : Int32} {x6 : Int32} {c : Nat} (h : c ∉ [45]) : qA22_X11_decidingRule_0_tFx n I A J t x1 x2 x3 x4 x5 x6 c = A c := (fr_uc h (List.mem_of_getElem? (i := 0) rfl) (fr_qA14_X11_decidingRule_0_tFx (fr_subc rfl h)))
theorem fr_qA29_X11_decidingRule_0_tFx {n : Nat} {I : Nat → Nat → Int32} {A : Nat → Nat → Int32} {J : Nat → Nat → Int64} {t : Bool × Bool} {x1 : Int32} {x2 : Int32} {x3 : Int32} {x4 : Int32} {x5 : Int32} {x6 : Int32} {c : Nat} (h : c ∉ [45]) : qA29_X11_decidingRule_0_tFx n I A J t x1 x2 x3 x4 x5 x6 c = A c := (fr_uc h (List.mem_of_getElem? (i := 0) rfl) (fr_qA22_X11_decidingRule_0_tFx (fr_subc rfl h)))
theorem fr_qA44_X11_decidingRule_0_tFx {n : Nat} {I : Nat → Nat → Int32} {A : Nat → Nat → Int32} {J : Nat → Nat → Int64} {t : Bool × Bool} {x1 : Int32} {x2 : Int32} {x3 : Int32} {x4 : Int32} {x5 : Int32} {x6 : Int32} {c : Nat} (h : c ∉ [45]) : qA44_X11_decidingRule_0_tFx n I A J t x1 x2 x3 x4 x5 x6 c = A c := (fr_uc h (List.mem_of_getElem? (i := 0) rfl) (fr_qA29_X11_decidingRule_0_tFx (fr_subc rfl h)))
theorem fr_qA58_X11_decidingRule_0_tFx {n : Nat} {I : Nat → Nat → Int32} {A : Nat → Nat → Int32} {J : Nat → Nat → Int64} {t : Bool × Bool} {x1 : Int32} {x2 : Int32} {x3 : Int32} {x4 : Int32} {x5 : Int32} {x6 : Int32} {c : Nat} (h : c ∉ [45]) : qA58_X11_decidingRule_0_tFx n I A J t x1 x2 x3 x4 x5 x6 c = A c := (fr_uc h (List.mem_of_getElem? (i := 0) rfl) (fr_qA44_X11_decidingRule_0_tFx (fr_subc rfl h)))
theorem fr_qA74_X11_decidingRule_0_tFx {n : Nat} {I : Nat → Nat → Int32} {A : Nat → Nat → Int32} {J : Nat → Nat → Int64} {t : Bool × Bool} {x1 : Int32} {x2 : Int32} {x3 : Int32} {x4 : Int32} {x5 : Int32} {x6 : Int32} {c : Nat} (h : c ∉ [45]) : qA74_X11_decidingRule_0_tFx n I A J t x1 x2 x3 x4 x5 x6 c = A c := (fr_uc h (List.mem_of_getElem? (i := 0) rfl) (fr_qA58_X11_decidingRule_0_tFx (fr_subc rfl h)))
theorem fr_qA83_X11_decidingRule_0_tFx {n : Nat} {I : Nat → Nat → Int32} {A : Nat → Nat → Int32} {J : Nat → Nat → Int64} {t : Bool × Bool} {x1 : Int32} {x2 : Int32} {x3 : Int32} {x4 : Int32} {x5 : Int32} {x6 : Int32} {c : Nat} (h : c ∉ [45]) : qA83_X11_decidingRule_0_tFx n I A J t x1 x2 x3 x4 x5 x6 c = A c := (fr_uc h (List.mem_of_getElem? (i := 0) rfl) (fr_qA74_X11_decidingRule_0_tFx (fr_subc rfl h)))
theorem fr_pA_X11_decidingRule_0_tFx {n : Nat} {I : Nat → Nat → Int32} {A : Nat → Nat → Int32} {J : Nat → Nat → Int64} {t : Bool × Bool} {x1 : Int32} {x2 : Int32} {x3 : Int32} {x4 : Int32} {x5 : Int32} {x6 : Int32} {c : Nat} (h : c ∉ [45, 67]) : pA_X11_decidingRule_0_tFx n I A J t x1 x2 x3 x4 x5 x6 c = A c := ((fr_pA_X10_firstHolding_60_45 (fr_subc rfl h)).trans (fr_qA83_X11_decidingRule_0_tFx (fr_subc rfl h)))
theorem fr_lp_X11_firstYield_0_tFx_3_c1 {n : Nat} {I : Nat → Nat → Int32} {A : Nat → Nat → Int32} {J : Nat → Nat → Int64} {t : Bool × Bool} {x1 : Int32} {x2 : Int32} {x3 : Int32} {x4 : Int32} {x5 : Int32} {x6 : Int32} {c : Nat} (h : c ∉ [45, 67]) : ∀ (f : Nat) (A3 : Nat → Nat → Int32) (v3_7 : Int32), (lp_X11_firstYield_0_tFx_3 n I A J t x1 x2 x3 x4 x5 x6 f A3 v3_7).2 c = A3 c := by
  intro f
  induction f with
  | zero => intro _ _; rfl
  | succ f ih =>
    intro A3 v3_7
    unfold lp_X11_firstYield_0_tFx_3
    split
    · exact rfl
    · split
      · split
        · exact ih _ _
        · split
          · exact (ih _ _).trans (fr_pA_X11_decidingRule_0_tFx (fr_subc rfl h))
          · (try dsimp only); exact (fr_pA_X11_decidingRule_0_tFx (fr_subc rfl h))
      · exact rfl
theorem fr_pA_X11_firstYield_0_tFx {n : Nat} {I : Nat → Nat → Int32} {A : Nat → Nat → Int32} {J : Nat → Nat → Int64} {t : Bool × Bool} {x1 : Int32} {x2 : Int32} {x3 : Int32} {x4 : Int32} {x5 : Int32} {x6 : Int32} {c : Nat} (h : c ∉ [45, 67]) : pA_X11_firstYield_0_tFx n I A J t x1 x2 x3 x4 x5 x6 c = A c := (fr_lp_X11_firstYield_0_tFx_3_c1 (fr_subc rfl h) _ _ _)
theorem fr_pA_X11_yields_0_tFx {n : Nat} {I : Nat → Nat → Int32} {A : Nat → Nat → Int32} {J : Nat → Nat → Int64} {t : Bool × Bool} {x1 : Int32} {x2 : Int32} {x3 : Int32} {x4 : Int32} {x5 : Int32} {x6 : Int32} {c : Nat} (h : c ∉ [45, 67]) : pA_X11_yields_0_tFx n I A J t x1 x2 x3 x4 x5 x6 c = A c := (fr_itec rfl (fr_itec rfl (fr_pA_X11_firstYield_0_tFx (fr_subc rfl h))))
theorem fr_pA_X11_rule_0_tFx {n : Nat} {I : Nat → Nat → Int32} {A : Nat → Nat → Int32} {J : Nat → Nat → Int64} {t : Bool × Bool} {x1 : Int32} {x2 : Int32} {x3 : Int32} {x4 : Int32} {x5 : Int32} {x6 : Int32} {c : Nat} (h : c ∉ [45, 67]) : pA_X11_rule_0_tFx n I A J t x1 x2 x3 x4 x5 x6 c = A c := (fr_itec rfl (fr_itec rfl (fr_itec rfl (fr_pA_X11_decidingRule_0_tFx (fr_subc rfl h)))))
theorem fr_qAm64_X11_offer_0_tFx {n : Nat} {I : Nat → Nat → Int32} {A : Nat → Nat → Int32} {J : Nat → Nat → Int64} {t : Bool × Bool} {x1 : Int32} {x2 : Int32} {x3 : Int32} {x4 : Int32} {x5 : Int32} {A39 : Nat → Nat → Int32} {v39_8 : Int32} {v39_9 : Int32} {v39_10 : Int32} {c : Nat} (h : c ∉ [45, 67]) : qAm64_X11_offer_0_tFx n I A J t x1 x2 x3 x4 x5 A39 v39_8 v39_9 v39_10 c = A39 c := (fr_itec rfl (fr_pA_X11_firstYield_0_tFx (fr_subc rfl h)))
theorem fr_lp_X11_offer_0_tFx_39_c0 {n : Nat} {I : Nat → Nat → Int32} {A : Nat → Nat → Int32} {J : Nat → Nat → Int64} {t : Bool × Bool} {x1 : Int32} {x2 : Int32} {x3 : Int32} {x4 : Int32} {x5 : Int32} {c : Nat} (h : c ∉ [45, 67]) : ∀ (f : Nat) (A39 : Nat → Nat → Int32) (v39_8 : Int32) (v39_9 : Int32) (v39_10 : Int32), (lp_X11_offer_0_tFx_39 n I A J t x1 x2 x3 x4 x5 f A39 v39_8 v39_9 v39_10).1 c = A39 c := by
  intro f
  induction f with
  | zero => intro _ _ _ _; rfl
  | succ f ih =>
    intro A39 v39_8 v39_9 v39_10
    unfold lp_X11_offer_0_tFx_39
    split
    · exact rfl
    · exact (ih _ _ _ _).trans (fr_qAm64_X11_offer_0_tFx (fr_subc rfl h))
theorem fr_qAw39_X11_offer_0_tFx {n : Nat} {I : Nat → Nat → Int32} {A : Nat → Nat → Int32} {J : Nat → Nat → Int64} {t : Bool × Bool} {x1 : Int32} {x2 : Int32} {x3 : Int32} {x4 : Int32} {x5 : Int32} {c : Nat} (h : c ∉ [45, 67]) : qAw39_X11_offer_0_tFx n I A J t x1 x2 x3 x4 x5 c = A c := (fr_lp_X11_offer_0_tFx_39_c0 (fr_subc rfl h) _ _ _ _ _)
theorem fr_qIm102_X11_offer_0_tFx {n : Nat} {I : Nat → Nat → Int32} {A : Nat → Nat → Int32} {J : Nat → Nat → Int64} {t : Bool × Bool} {x1 : Int32} {x2 : Int32} {x3 : Int32} {x4 : Int32} {x5 : Int32} {c k : Nat} (h : (c, k) ∉ [(46, 5)]) : qIm102_X11_offer_0_tFx n I A J t x1 x2 x3 x4 x5 c k = I c k := (fr_itep rfl (fr_pI_X3_offer_46 (fr_subp rfl h)))
theorem fr_qAm102_X11_offer_0_tFx {n : Nat} {I : Nat → Nat → Int32} {A : Nat → Nat → Int32} {J : Nat → Nat → Int64} {t : Bool × Bool} {x1 : Int32} {x2 : Int32} {x3 : Int32} {x4 : Int32} {x5 : Int32} {c : Nat} (h : c ∉ [45, 47, 48, 49, 51, 67]) : qAm102_X11_offer_0_tFx n I A J t x1 x2 x3 x4 x5 c = A c := (fr_itec (fr_qAw39_X11_offer_0_tFx (fr_subc rfl h)) ((fr_pA_X3_offer_46 (fr_subc rfl h)).trans (fr_qAw39_X11_offer_0_tFx (fr_subc rfl h))))
theorem fr_pI_X11_offer_0_tFx {n : Nat} {I : Nat → Nat → Int32} {A : Nat → Nat → Int32} {J : Nat → Nat → Int64} {t : Bool × Bool} {x1 : Int32} {x2 : Int32} {x3 : Int32} {x4 : Int32} {x5 : Int32} {c k : Nat} (h : (c, k) ∉ [(46, 5)]) : pI_X11_offer_0_tFx n I A J t x1 x2 x3 x4 x5 c k = I c k := (fr_qIm102_X11_offer_0_tFx (fr_subp rfl h))
theorem fr_pA_X11_offer_0_tFx {n : Nat} {I : Nat → Nat → Int32} {A : Nat → Nat → Int32} {J : Nat → Nat → Int64} {t : Bool × Bool} {x1 : Int32} {x2 : Int32} {x3 : Int32} {x4 : Int32} {x5 : Int32} {c : Nat} (h : c ∉ [45, 47, 48, 49, 51, 67]) : pA_X11_offer_0_tFx n I A J t x1 x2 x3 x4 x5 c = A c := (fr_qAm102_X11_offer_0_tFx (fr_subc rfl h))
theorem fr_qIm66_X11_offerAll_0_tFx {n : Nat} {I : Nat → Nat → Int32} {A : Nat → Nat → Int32} {J : Nat → Nat → Int64} {t : Bool × Bool} {x1 : Int32} {x2 : Int32} {x3 : Int32} {I10 : Nat → Nat → Int32} {A10 : Nat → Nat → Int32} {v10_4 : Int32} {I25 : Nat → Nat → Int32} {A25 : Nat → Nat → Int32} {v25_5 : Int32} {c k : Nat} (h : (c, k) ∉ [(46, 5)]) : qIm66_X11_offerAll_0_tFx n I A J t x1 x2 x3 I10 A10 v10_4 I25 A25 v25_5 c k = I25 c k := (fr_itep rfl (fr_pI_X11_offer_0_tFx (fr_subp rfl h)))
theorem fr_qAm66_X11_offerAll_0_tFx {n : Nat} {I : Nat → Nat → Int32} {A : Nat → Nat → Int32} {J : Nat → Nat → Int64} {t : Bool × Bool} {x1 : Int32} {x2 : Int32} {x3 : Int32} {I10 : Nat → Nat → Int32} {A10 : Nat → Nat → Int32} {v10_4 : Int32} {I25 : Nat → Nat → Int32} {A25 : Nat → Nat → Int32} {v25_5 : Int32} {c : Nat} (h : c ∉ [45, 47, 48, 49, 51, 67]) : qAm66_X11_offerAll_0_tFx n I A J t x1 x2 x3 I10 A10 v10_4 I25 A25 v25_5 c = A25 c := (fr_itec rfl (fr_pA_X11_offer_0_tFx (fr_subc rfl h)))
theorem fr_lp_X11_offerAll_0_tFx_25_c0 {n : Nat} {I : Nat → Nat → Int32} {A : Nat → Nat → Int32} {J : Nat → Nat → Int64} {t : Bool × Bool} {x1 : Int32} {x2 : Int32} {x3 : Int32} {I10 : Nat → Nat → Int32} {A10 : Nat → Nat → Int32} {v10_4 : Int32} {c k : Nat} (h : (c, k) ∉ [(46, 5)]) : ∀ (f : Nat) (I25 : Nat → Nat → Int32) (A25 : Nat → Nat → Int32) (v25_5 : Int32), (lp_X11_offerAll_0_tFx_25 n I A J t x1 x2 x3 I10 A10 v10_4 f I25 A25 v25_5).1 c k = I25 c k := by
  intro f
  induction f with
  | zero => intro _ _ _; rfl
  | succ f ih =>
    intro I25 A25 v25_5
    unfold lp_X11_offerAll_0_tFx_25
    split
    · exact rfl
    · split
      · exact rfl
      · exact (ih _ _ _).trans (fr_qIm66_X11_offerAll_0_tFx (fr_subp rfl h))
theorem fr_lp_X11_offerAll_0_tFx_25_c1 {n : Nat} {I : Nat → Nat → Int32} {A : Nat → Nat → Int32} {J : Nat → Nat → Int64} {t : Bool × Bool} {x1 : Int32} {x2 : Int32} {x3 : Int32} {I10 : Nat → Nat → Int32} {A10 : Nat → Nat → Int32} {v10_4 : Int32} {c : Nat} (h : c ∉ [45, 47, 48, 49, 51, 67]) : ∀ (f : Nat) (I25 : Nat → Nat → Int32) (A25 : Nat → Nat → Int32) (v25_5 : Int32), (lp_X11_offerAll_0_tFx_25 n I A J t x1 x2 x3 I10 A10 v10_4 f I25 A25 v25_5).2.1 c = A25 c := by
  intro f
  induction f with
  | zero => intro _ _ _; rfl
  | succ f ih =>
    intro I25 A25 v25_5
    unfold lp_X11_offerAll_0_tFx_25
    split
    · exact rfl
    · split
      · exact rfl
      · exact (ih _ _ _).trans (fr_qAm66_X11_offerAll_0_tFx (fr_subc rfl h))
theorem fr_qIw25_X11_offerAll_0_tFx {n : Nat} {I : Nat → Nat → Int32} {A : Nat → Nat → Int32} {J : Nat → Nat → Int64} {t : Bool × Bool} {x1 : Int32} {x2 : Int32} {x3 : Int32} {I10 : Nat → Nat → Int32} {A10 : Nat → Nat → Int32} {v10_4 : Int32} {c k : Nat} (h : (c, k) ∉ [(46, 5)]) : qIw25_X11_offerAll_0_tFx n I A J t x1 x2 x3 I10 A10 v10_4 c k = I10 c k := (fr_lp_X11_offerAll_0_tFx_25_c0 (fr_subp rfl h) _ _ _ _)
theorem fr_qAw25_X11_offerAll_0_tFx {n : Nat} {I : Nat → Nat → Int32} {A : Nat → Nat → Int32} {J : Nat → Nat → Int64} {t : Bool × Bool} {x1 : Int32} {x2 : Int32} {x3 : Int32} {I10 : Nat → Nat → Int32} {A10 : Nat → Nat → Int32} {v10_4 : Int32} {c : Nat} (h : c ∉ [45, 47, 48, 49, 51, 67]) : qAw25_X11_offerAll_0_tFx n I A J t x1 x2 x3 I10 A10 v10_4 c = A10 c := (fr_lp_X11_offerAll_0_tFx_25_c1 (fr_subc rfl h) _ _ _ _)
theorem fr_lp_X11_offerAll_0_tFx_10_c0 {n : Nat} {I : Nat → Nat → Int32} {A : Nat → Nat → Int32} {J : Nat → Nat → Int64} {t : Bool × Bool} {x1 : Int32} {x2 : Int32} {x3 : Int32} {c k : Nat} (h : (c, k) ∉ [(46, 5)]) : ∀ (f : Nat) (I10 : Nat → Nat → Int32) (A10 : Nat → Nat → Int32) (v10_4 : Int32), (lp_X11_offerAll_0_tFx_10 n I A J t x1 x2 x3 f I10 A10 v10_4).1 c k = I10 c k := by
  intro f
  induction f with
  | zero => intro _ _ _; rfl
  | succ f ih =>
    intro I10 A10 v10_4
    unfold lp_X11_offerAll_0_tFx_10
    split
    · exact rfl
    · exact (ih _ _ _).trans (fr_qIw25_X11_offerAll_0_tFx (fr_subp rfl h))
theorem fr_lp_X11_offerAll_0_tFx_10_c1 {n : Nat} {I : Nat → Nat → Int32} {A : Nat → Nat → Int32} {J : Nat → Nat → Int64} {t : Bool × Bool} {x1 : Int32} {x2 : Int32} {x3 : Int32} {c : Nat} (h : c ∉ [45, 47, 48, 49, 51, 67]) : ∀ (f : Nat) (I10 : Nat → Nat → Int32) (A10 : Nat → Nat → Int32) (v10_4 : Int32), (lp_X11_offerAll_0_tFx_10 n I A J t x1 x2 x3 f I10 A10 v10_4).2.1 c = A10 c := by
  intro f
  induction f with
  | zero => intro _ _ _; rfl
  | succ f ih =>
    intro I10 A10 v10_4
    unfold lp_X11_offerAll_0_tFx_10
    split
    · exact rfl
    · exact (ih _ _ _).trans (fr_qAw25_X11_offerAll_0_tFx (fr_subc rfl h))
theorem fr_qIw10_X11_offerAll_0_tFx {n : Nat} {I : Nat → Nat → Int32} {A : Nat → Nat → Int32} {J : Nat → Nat → Int64} {t : Bool × Bool} {x1 : Int32} {x2 : Int32} {x3 : Int32} {c k : Nat} (h : (c, k) ∉ [(46, 5)]) : qIw10_X11_offerAll_0_tFx n I A J t x1 x2 x3 c k = I c k := ((fr_lp_X11_offerAll_0_tFx_10_c0 (fr_subp rfl h) _ _ _ _).trans (fr_pI_X3_renew_46 (fr_subp rfl h)))
theorem fr_qAw10_X11_offerAll_0_tFx {n : Nat} {I : Nat → Nat → Int32} {A : Nat → Nat → Int32} {J : Nat → Nat → Int64} {t : Bool × Bool} {x1 : Int32} {x2 : Int32} {x3 : Int32} {c : Nat} (h : c ∉ [45, 47, 48, 49, 50, 51, 67]) : qAw10_X11_offerAll_0_tFx n I A J t x1 x2 x3 c = A c := ((fr_lp_X11_offerAll_0_tFx_10_c1 (fr_subc rfl h) _ _ _ _).trans (fr_pA_X3_renew_46 (fr_subc rfl h)))
theorem fr_pI_X11_offerAll_0_tFx {n : Nat} {I : Nat → Nat → Int32} {A : Nat → Nat → Int32} {J : Nat → Nat → Int64} {t : Bool × Bool} {x1 : Int32} {x2 : Int32} {x3 : Int32} {c k : Nat} (h : (c, k) ∉ [(46, 5)]) : pI_X11_offerAll_0_tFx n I A J t x1 x2 x3 c k = I c k := (fr_qIw10_X11_offerAll_0_tFx (fr_subp rfl h))
theorem fr_pA_X11_offerAll_0_tFx {n : Nat} {I : Nat → Nat → Int32} {A : Nat → Nat → Int32} {J : Nat → Nat → Int64} {t : Bool × Bool} {x1 : Int32} {x2 : Int32} {x3 : Int32} {c : Nat} (h : c ∉ [45, 47, 48, 49, 50, 51, 67]) : pA_X11_offerAll_0_tFx n I A J t x1 x2 x3 c = A c := (fr_qAw10_X11_offerAll_0_tFx (fr_subc rfl h))
theorem fr_lp_X11_schedule_0_tFx_44_c0 {n : Nat} {I : Nat → Nat → Int32} {A : Nat → Nat → Int32} {J : Nat → Nat → Int64} {t : Bool × Bool} {x1 : Int32} {x2 : Int32} {c k : Nat} (h : (c, k) ∉ [(46, 5)]) : ∀ (f : Nat) (I44 : Nat → Nat → Int32) (A44 : Nat → Nat → Int32) (v44_3 : Int32) (v44_4 : Int32), (lp_X11_schedule_0_tFx_44 n I A J t x1 x2 f I44 A44 v44_3 v44_4).1 c k = I44 c k := by
  intro f
  induction f with
  | zero => intro _ _ _ _; rfl
  | succ f ih =>
    intro I44 A44 v44_3 v44_4
    unfold lp_X11_schedule_0_tFx_44
    split
    · exact rfl
    · exact (ih _ _ _ _).trans (fr_pI_X11_offerAll_0_tFx (fr_subp rfl h))
theorem fr_lp_X11_schedule_0_tFx_44_c1 {n : Nat} {I : Nat → Nat → Int32} {A : Nat → Nat → Int32} {J : Nat → Nat → Int64} {t : Bool × Bool} {x1 : Int32} {x2 : Int32} {c : Nat} (h : c ∉ [45, 47, 48, 49, 50, 51, 52, 54, 55, 56, 57, 58, 59, 67]) : ∀ (f : Nat) (I44 : Nat → Nat → Int32) (A44 : Nat → Nat → Int32) (v44_3 : Int32) (v44_4 : Int32), (lp_X11_schedule_0_tFx_44 n I A J t x1 x2 f I44 A44 v44_3 v44_4).2.1 c = A44 c := by
  intro f
  induction f with
  | zero => intro _ _ _ _; rfl
  | succ f ih =>
    intro I44 A44 v44_3 v44_4
    unfold lp_X11_schedule_0_tFx_44
    split
    · exact rfl
    · exact (ih _ _ _ _).trans ((fr_pA_X11_settle_0 (fr_subc rfl h)).trans ((fr_pA_X3_solve_46 (fr_subc rfl h)).trans (fr_pA_X11_offerAll_0_tFx (fr_subc rfl h))))
theorem fr_qIw44_X11_schedule_0_tFx {n : Nat} {I : Nat → Nat → Int32} {A : Nat → Nat → Int32} {J : Nat → Nat → Int64} {t : Bool × Bool} {x1 : Int32} {x2 : Int32} {c k : Nat} (h : (c, k) ∉ [(46, 5), (53, 6), (53, 7)]) : qIw44_X11_schedule_0_tFx n I A J t x1 x2 c k = I c k := ((fr_lp_X11_schedule_0_tFx_44_c0 (fr_subp rfl h) _ _ _ _ _).trans (fr_pI_X5_renew_53 (fr_subp rfl h)))
theorem fr_qAw44_X11_schedule_0_tFx {n : Nat} {I : Nat → Nat → Int32} {A : Nat → Nat → Int32} {J : Nat → Nat → Int64} {t : Bool × Bool} {x1 : Int32} {x2 : Int32} {c : Nat} (h : c ∉ [30, 31, 45, 47, 48, 49, 50, 51, 52, 54, 55, 56, 57, 58, 59, 67]) : qAw44_X11_schedule_0_tFx n I A J t x1 x2 c = A c := ((fr_lp_X11_schedule_0_tFx_44_c1 (fr_subc rfl h) _ _ _ _ _).trans ((fr_pA_X5_renew_53 (fr_subc rfl h)).trans (fr_pA_X11_learn_0 (fr_subc rfl h))))
theorem fr_pI_X11_schedule_0_tFx {n : Nat} {I : Nat → Nat → Int32} {A : Nat → Nat → Int32} {J : Nat → Nat → Int64} {t : Bool × Bool} {x1 : Int32} {x2 : Int32} {c k : Nat} (h : (c, k) ∉ [(46, 5), (53, 6), (53, 7)]) : pI_X11_schedule_0_tFx n I A J t x1 x2 c k = I c k := (fr_itep rfl (fr_itep rfl (fr_qIw44_X11_schedule_0_tFx (fr_subp rfl h))))
theorem fr_pA_X11_schedule_0_tFx {n : Nat} {I : Nat → Nat → Int32} {A : Nat → Nat → Int32} {J : Nat → Nat → Int64} {t : Bool × Bool} {x1 : Int32} {x2 : Int32} {c : Nat} (h : c ∉ [30, 31, 45, 47, 48, 49, 50, 51, 52, 54, 55, 56, 57, 58, 59, 67]) : pA_X11_schedule_0_tFx n I A J t x1 x2 c = A c := (fr_itec rfl (fr_itec rfl (fr_qAw44_X11_schedule_0_tFx (fr_subc rfl h))))
theorem fr_qI18_X11_read_0_tTx {n : Nat} {I : Nat → Nat → Int32} {A : Nat → Nat → Int32} {J : Nat → Nat → Int64} {t : Bool × Bool} {c k : Nat} (h : (c, k) ∉ [(0, 13), (33, 3), (33, 4), (33, 5), (33, 6), (33, 7), (33, 8), (33, 9), (33, 10), (33, 11), (34, 1), (34, 2), (34, 3), (34, 4), (34, 5), (60, 7), (60, 8)]) : qI18_X11_read_0_tTx n I A J t c k = I c k := (fr_up h (List.mem_of_getElem? (i := 0) rfl) (fr_pI_X4_parse_33_32_tTx (fr_subp rfl h)))
theorem fr_pI_X11_read_0_tTx {n : Nat} {I : Nat → Nat → Int32} {A : Nat → Nat → Int32} {J : Nat → Nat → Int64} {t : Bool × Bool} {c k : Nat} (h : (c, k) ∉ [(0, 13), (33, 3), (33, 4), (33, 5), (33, 6), (33, 7), (33, 8), (33, 9), (33, 10), (33, 11), (34, 1), (34, 2), (34, 3), (34, 4), (34, 5), (60, 7), (60, 8)]) : pI_X11_read_0_tTx n I A J t c k = I c k := (fr_qI18_X11_read_0_tTx (fr_subp rfl h))
theorem fr_pA_X11_read_0_tTx {n : Nat} {I : Nat → Nat → Int32} {A : Nat → Nat → Int32} {J : Nat → Nat → Int64} {t : Bool × Bool} {c : Nat} (h : c ∉ [36, 61, 62, 63, 64, 65, 66]) : pA_X11_read_0_tTx n I A J t c = A c := (fr_pA_X4_parse_33_32_tTx (fr_subc rfl h))
theorem fr_qA6_X11_decidingRule_0_tTx {n : Nat} {I : Nat → Nat → Int32} {A : Nat → Nat → Int32} {J : Nat → Nat → Int64} {t : Bool × Bool} {x1 : Int32} {x2 : Int32} {x3 : Int32} {x4 : Int32} {x5 : Int32} {x6 : Int32} {c : Nat} (h : c ∉ [45]) : qA6_X11_decidingRule_0_tTx n I A J t x1 x2 x3 x4 x5 x6 c = A c := (fr_uc h (List.mem_of_getElem? (i := 0) rfl) rfl)
theorem fr_qA14_X11_decidingRule_0_tTx {n : Nat} {I : Nat → Nat → Int32} {A : Nat → Nat → Int32} {J : Nat → Nat → Int64} {t : Bool × Bool} {x1 : Int32} {x2 : Int32} {x3 : Int32} {x4 : Int32} {x5 : Int32} {x6 : Int32} {c : Nat} (h : c ∉ [45]) : qA14_X11_decidingRule_0_tTx n I A J t x1 x2 x3 x4 x5 x6 c = A c := (fr_uc h (List.mem_of_getElem? (i := 0) rfl) (fr_qA6_X11_decidingRule_0_tTx (fr_subc rfl h)))
theorem fr_qA22_X11_decidingRule_0_tTx {n : Nat} {I : Nat → Nat → Int32} {A : Nat → Nat → Int32} {J : Nat → Nat → Int64} {t : Bool × Bool} {x1 : Int32} {x2 : Int32} {x3 : Int32} {x4 : Int32} {x5 : Int32} {x6 : Int32} {c : Nat} (h : c ∉ [45]) : qA22_X11_decidingRule_0_tTx n I A J t x1 x2 x3 x4 x5 x6 c = A c := (fr_uc h (List.mem_of_getElem? (i := 0) rfl) (fr_qA14_X11_decidingRule_0_tTx (fr_subc rfl h)))
theorem fr_qA29_X11_decidingRule_0_tTx {n : Nat} {I : Nat → Nat → Int32} {A : Nat → Nat → Int32} {J : Nat → Nat → Int64} {t : Bool × Bool} {x1 : Int32} {x2 : Int32} {x3 : Int32} {x4 : Int32} {x5 : Int32} {x6 : Int32} {c : Nat} (h : c ∉ [45]) : qA29_X11_decidingRule_0_tTx n I A J t x1 x2 x3 x4 x5 x6 c = A c := (fr_uc h (List.mem_of_getElem? (i := 0) rfl) (fr_qA22_X11_decidingRule_0_tTx (fr_subc rfl h)))
theorem fr_qA44_X11_decidingRule_0_tTx {n : Nat} {I : Nat → Nat → Int32} {A : Nat → Nat → Int32} {J : Nat → Nat → Int64} {t : Bool × Bool} {x1 : Int32} {x2 : Int32} {x3 : Int32} {x4 : Int32} {x5 : Int32} {x6 : Int32} {c : Nat} (h : c ∉ [45]) : qA44_X11_decidingRule_0_tTx n I A J t x1 x2 x3 x4 x5 x6 c = A c := (fr_uc h (List.mem_of_getElem? (i := 0) rfl) (fr_qA29_X11_decidingRule_0_tTx (fr_subc rfl h)))
theorem fr_qA58_X11_decidingRule_0_tTx {n : Nat} {I : Nat → Nat → Int32} {A : Nat → Nat → Int32} {J : Nat → Nat → Int64} {t : Bool × Bool} {x1 : Int32} {x2 : Int32} {x3 : Int32} {x4 : Int32} {x5 : Int32} {x6 : Int32} {c : Nat} (h : c ∉ [45]) : qA58_X11_decidingRule_0_tTx n I A J t x1 x2 x3 x4 x5 x6 c = A c := (fr_uc h (List.mem_of_getElem? (i := 0) rfl) (fr_qA44_X11_decidingRule_0_tTx (fr_subc rfl h)))
theorem fr_qA74_X11_decidingRule_0_tTx {n : Nat} {I : Nat → Nat → Int32} {A : Nat → Nat → Int32} {J : Nat → Nat → Int64} {t : Bool × Bool} {x1 : Int32} {x2 : Int32} {x3 : Int32} {x4 : Int32} {x5 : Int32} {x6 : Int32} {c : Nat} (h : c ∉ [45]) : qA74_X11_decidingRule_0_tTx n I A J t x1 x2 x3 x4 x5 x6 c = A c := (fr_uc h (List.mem_of_getElem? (i := 0) rfl) (fr_qA58_X11_decidingRule_0_tTx (fr_subc rfl h)))
theorem fr_qA83_X11_decidingRule_0_tTx {n : Nat} {I : Nat → Nat → Int32} {A : Nat → Nat → Int32} {J : Nat → Nat → Int64} {t : Bool × Bool} {x1 : Int32} {x2 : Int32} {x3 : Int32} {x4 : Int32} {x5 : Int32} {x6 : Int32} {c : Nat} (h : c ∉ [45]) : qA83_X11_decidingRule_0_tTx n I A J t x1 x2 x3 x4 x5 x6 c = A c := (fr_uc h (List.mem_of_getElem? (i := 0) rfl) (fr_qA74_X11_decidingRule_0_tTx (fr_subc rfl h)))
theorem fr_pA_X11_decidingRule_0_tTx {n : Nat} {I : Nat → Nat → Int32} {A : Nat → Nat → Int32} {J : Nat → Nat → Int64} {t : Bool × Bool} {x1 : Int32} {x2 : Int32} {x3 : Int32} {x4 : Int32} {x5 : Int32} {x6 : Int32} {c : Nat} (h : c ∉ [44, 45]) : pA_X11_decidingRule_0_tTx n I A J t x1 x2 x3 x4 x5 x6 c = A c := ((fr_pA_X10_firstHolding_37_45 (fr_subc rfl h)).trans (fr_qA83_X11_decidingRule_0_tTx (fr_subc rfl h)))
theorem fr_lp_X11_firstYield_0_tTx_3_c1 {n : Nat} {I : Nat → Nat → Int32} {A : Nat → Nat → Int32} {J : Nat → Nat → Int64} {t : Bool × Bool} {x1 : Int32} {x2 : Int32} {x3 : Int32} {x4 : Int32} {x5 : Int32} {x6 : Int32} {c : Nat} (h : c ∉ [44, 45]) : ∀ (f : Nat) (A3 : Nat → Nat → Int32) (v3_7 : Int32), (lp_X11_firstYield_0_tTx_3 n I A J t x1 x2 x3 x4 x5 x6 f A3 v3_7).2 c = A3 c := by
  intro f
  induction f with
  | zero => intro _ _; rfl
  | succ f ih =>
    intro A3 v3_7
    unfold lp_X11_firstYield_0_tTx_3
    split
    · exact rfl
    · split
      · split
        · exact ih _ _
        · split
          · exact (ih _ _).trans (fr_pA_X11_decidingRule_0_tTx (fr_subc rfl h))
          · (try dsimp only); exact (fr_pA_X11_decidingRule_0_tTx (fr_subc rfl h))
      · exact rfl
theorem fr_pA_X11_firstYield_0_tTx {n : Nat} {I : Nat → Nat → Int32} {A : Nat → Nat → Int32} {J : Nat → Nat → Int64} {t : Bool × Bool} {x1 : Int32} {x2 : Int32} {x3 : Int32} {x4 : Int32} {x5 : Int32} {x6 : Int32} {c : Nat} (h : c ∉ [44, 45]) : pA_X11_firstYield_0_tTx n I A J t x1 x2 x3 x4 x5 x6 c = A c := (fr_lp_X11_firstYield_0_tTx_3_c1 (fr_subc rfl h) _ _ _)
theorem fr_pA_X11_yields_0_tTx {n : Nat} {I : Nat → Nat → Int32} {A : Nat → Nat → Int32} {J : Nat → Nat → Int64} {t : Bool × Bool} {x1 : Int32} {x2 : Int32} {x3 : Int32} {x4 : Int32} {x5 : Int32} {x6 : Int32} {c : Nat} (h : c ∉ [44, 45]) : pA_X11_yields_0_tTx n I A J t x1 x2 x3 x4 x5 x6 c = A c := (fr_itec rfl (fr_itec rfl (fr_pA_X11_firstYield_0_tTx (fr_subc rfl h))))
theorem fr_pA_X11_rule_0_tTx {n : Nat} {I : Nat → Nat → Int32} {A : Nat → Nat → Int32} {J : Nat → Nat → Int64} {t : Bool × Bool} {x1 : Int32} {x2 : Int32} {x3 : Int32} {x4 : Int32} {x5 : Int32} {x6 : Int32} {c : Nat} (h : c ∉ [44, 45]) : pA_X11_rule_0_tTx n I A J t x1 x2 x3 x4 x5 x6 c = A c := (fr_itec rfl (fr_itec rfl (fr_itec rfl (fr_pA_X11_decidingRule_0_tTx (fr_subc rfl h)))))
theorem fr_qAm64_X11_offer_0_tTx {n : Nat} {I : Nat → Nat → Int32} {A : Nat → Nat → Int32} {J : Nat → Nat → Int64} {t : Bool × Bool} {x1 : Int32} {x2 : Int32} {x3 : Int32} {x4 : Int32} {x5 : Int32} {A39 : Nat → Nat → Int32} {v39_8 : Int32} {v39_9 : Int32} {v39_10 : Int32} {c : Nat} (h : c ∉ [44, 45]) : qAm64_X11_offer_0_tTx n I A J t x1 x2 x3 x4 x5 A39 v39_8 v39_9 v39_10 c = A39 c := (fr_itec rfl (fr_pA_X11_firstYield_0_tTx (fr_subc rfl h)))
theorem fr_lp_X11_offer_0_tTx_39_c0 {n : Nat} {I : Nat → Nat → Int32} {A : Nat → Nat → Int32} {J : Nat → Nat → Int64} {t : Bool × Bool} {x1 : Int32} {x2 : Int32} {x3 : Int32} {x4 : Int32} {x5 : Int32} {c : Nat} (h : c ∉ [44, 45]) : ∀ (f : Nat) (A39 : Nat → Nat → Int32) (v39_8 : Int32) (v39_9 : Int32) (v39_10 : Int32), (lp_X11_offer_0_tTx_39 n I A J t x1 x2 x3 x4 x5 f A39 v39_8 v39_9 v39_10).1 c = A39 c := by
  intro f
  induction f with
  | zero => intro _ _ _ _; rfl
  | succ f ih =>
    intro A39 v39_8 v39_9 v39_10
    unfold lp_X11_offer_0_tTx_39
    split
    · exact rfl
    · exact (ih _ _ _ _).trans (fr_qAm64_X11_offer_0_tTx (fr_subc rfl h))
theorem fr_qAw39_X11_offer_0_tTx {n : Nat} {I : Nat → Nat → Int32} {A : Nat → Nat → Int32} {J : Nat → Nat → Int64} {t : Bool × Bool} {x1 : Int32} {x2 : Int32} {x3 : Int32} {x4 : Int32} {x5 : Int32} {c : Nat} (h : c ∉ [44, 45]) : qAw39_X11_offer_0_tTx n I A J t x1 x2 x3 x4 x5 c = A c := (fr_lp_X11_offer_0_tTx_39_c0 (fr_subc rfl h) _ _ _ _ _)
theorem fr_qIm102_X11_offer_0_tTx {n : Nat} {I : Nat → Nat → Int32} {A : Nat → Nat → Int32} {J : Nat → Nat → Int64} {t : Bool × Bool} {x1 : Int32} {x2 : Int32} {x3 : Int32} {x4 : Int32} {x5 : Int32} {c k : Nat} (h : (c, k) ∉ [(46, 5)]) : qIm102_X11_offer_0_tTx n I A J t x1 x2 x3 x4 x5 c k = I c k := (fr_itep rfl (fr_pI_X3_offer_46 (fr_subp rfl h)))
theorem fr_qAm102_X11_offer_0_tTx {n : Nat} {I : Nat → Nat → Int32} {A : Nat → Nat → Int32} {J : Nat → Nat → Int64} {t : Bool × Bool} {x1 : Int32} {x2 : Int32} {x3 : Int32} {x4 : Int32} {x5 : Int32} {c : Nat} (h : c ∉ [44, 45, 47, 48, 49, 51]) : qAm102_X11_offer_0_tTx n I A J t x1 x2 x3 x4 x5 c = A c := (fr_itec (fr_qAw39_X11_offer_0_tTx (fr_subc rfl h)) ((fr_pA_X3_offer_46 (fr_subc rfl h)).trans (fr_qAw39_X11_offer_0_tTx (fr_subc rfl h))))
theorem fr_pI_X11_offer_0_tTx {n : Nat} {I : Nat → Nat → Int32} {A : Nat → Nat → Int32} {J : Nat → Nat → Int64} {t : Bool × Bool} {x1 : Int32} {x2 : Int32} {x3 : Int32} {x4 : Int32} {x5 : Int32} {c k : Nat} (h : (c, k) ∉ [(46, 5)]) : pI_X11_offer_0_tTx n I A J t x1 x2 x3 x4 x5 c k = I c k := (fr_qIm102_X11_offer_0_tTx (fr_subp rfl h))
theorem fr_pA_X11_offer_0_tTx {n : Nat} {I : Nat → Nat → Int32} {A : Nat → Nat → Int32} {J : Nat → Nat → Int64} {t : Bool × Bool} {x1 : Int32} {x2 : Int32} {x3 : Int32} {x4 : Int32} {x5 : Int32} {c : Nat} (h : c ∉ [44, 45, 47, 48, 49, 51]) : pA_X11_offer_0_tTx n I A J t x1 x2 x3 x4 x5 c = A c := (fr_qAm102_X11_offer_0_tTx (fr_subc rfl h))
theorem fr_qIm66_X11_offerAll_0_tTx {n : Nat} {I : Nat → Nat → Int32} {A : Nat → Nat → Int32} {J : Nat → Nat → Int64} {t : Bool × Bool} {x1 : Int32} {x2 : Int32} {x3 : Int32} {I10 : Nat → Nat → Int32} {A10 : Nat → Nat → Int32} {v10_4 : Int32} {I25 : Nat → Nat → Int32} {A25 : Nat → Nat → Int32} {v25_5 : Int32} {c k : Nat} (h : (c, k) ∉ [(46, 5)]) : qIm66_X11_offerAll_0_tTx n I A J t x1 x2 x3 I10 A10 v10_4 I25 A25 v25_5 c k = I25 c k := (fr_itep rfl (fr_pI_X11_offer_0_tTx (fr_subp rfl h)))
theorem fr_qAm66_X11_offerAll_0_tTx {n : Nat} {I : Nat → Nat → Int32} {A : Nat → Nat → Int32} {J : Nat → Nat → Int64} {t : Bool × Bool} {x1 : Int32} {x2 : Int32} {x3 : Int32} {I10 : Nat → Nat → Int32} {A10 : Nat → Nat → Int32} {v10_4 : Int32} {I25 : Nat → Nat → Int32} {A25 : Nat → Nat → Int32} {v25_5 : Int32} {c : Nat} (h : c ∉ [44, 45, 47, 48, 49, 51]) : qAm66_X11_offerAll_0_tTx n I A J t x1 x2 x3 I10 A10 v10_4 I25 A25 v25_5 c = A25 c := (fr_itec rfl (fr_pA_X11_offer_0_tTx (fr_subc rfl h)))
theorem fr_lp_X11_offerAll_0_tTx_25_c0 {n : Nat} {I : Nat → Nat → Int32} {A : Nat → Nat → Int32} {J : Nat → Nat → Int64} {t : Bool × Bool} {x1 : Int32} {x2 : Int32} {x3 : Int32} {I10 : Nat → Nat → Int32} {A10 : Nat → Nat → Int32} {v10_4 : Int32} {c k : Nat} (h : (c, k) ∉ [(46, 5)]) : ∀ (f : Nat) (I25 : Nat → Nat → Int32) (A25 : Nat → Nat → Int32) (v25_5 : Int32), (lp_X11_offerAll_0_tTx_25 n I A J t x1 x2 x3 I10 A10 v10_4 f I25 A25 v25_5).1 c k = I25 c k := by
  intro f
  induction f with
  | zero => intro _ _ _; rfl
  | succ f ih =>
    intro I25 A25 v25_5
    unfold lp_X11_offerAll_0_tTx_25
    split
    · exact rfl
    · split
      · exact rfl
      · exact (ih _ _ _).trans (fr_qIm66_X11_offerAll_0_tTx (fr_subp rfl h))
theorem fr_lp_X11_offerAll_0_tTx_25_c1 {n : Nat} {I : Nat → Nat → Int32} {A : Nat → Nat → Int32} {J : Nat → Nat → Int64} {t : Bool × Bool} {x1 : Int32} {x2 : Int32} {x3 : Int32} {I10 : Nat → Nat → Int32} {A10 : Nat → Nat → Int32} {v10_4 : Int32} {c : Nat} (h : c ∉ [44, 45, 47, 48, 49, 51]) : ∀ (f : Nat) (I25 : Nat → Nat → Int32) (A25 : Nat → Nat → Int32) (v25_5 : Int32), (lp_X11_offerAll_0_tTx_25 n I A J t x1 x2 x3 I10 A10 v10_4 f I25 A25 v25_5).2.1 c = A25 c := by
  intro f
  induction f with
  | zero => intro _ _ _; rfl
  | succ f ih =>
    intro I25 A25 v25_5
    unfold lp_X11_offerAll_0_tTx_25
    split
    · exact rfl
    · split
      · exact rfl
      · exact (ih _ _ _).trans (fr_qAm66_X11_offerAll_0_tTx (fr_subc rfl h))
theorem fr_qIw25_X11_offerAll_0_tTx {n : Nat} {I : Nat → Nat → Int32} {A : Nat → Nat → Int32} {J : Nat → Nat → Int64} {t : Bool × Bool} {x1 : Int32} {x2 : Int32} {x3 : Int32} {I10 : Nat → Nat → Int32} {A10 : Nat → Nat → Int32} {v10_4 : Int32} {c k : Nat} (h : (c, k) ∉ [(46, 5)]) : qIw25_X11_offerAll_0_tTx n I A J t x1 x2 x3 I10 A10 v10_4 c k = I10 c k := (fr_lp_X11_offerAll_0_tTx_25_c0 (fr_subp rfl h) _ _ _ _)
theorem fr_qAw25_X11_offerAll_0_tTx {n : Nat} {I : Nat → Nat → Int32} {A : Nat → Nat → Int32} {J : Nat → Nat → Int64} {t : Bool × Bool} {x1 : Int32} {x2 : Int32} {x3 : Int32} {I10 : Nat → Nat → Int32} {A10 : Nat → Nat → Int32} {v10_4 : Int32} {c : Nat} (h : c ∉ [44, 45, 47, 48, 49, 51]) : qAw25_X11_offerAll_0_tTx n I A J t x1 x2 x3 I10 A10 v10_4 c = A10 c := (fr_lp_X11_offerAll_0_tTx_25_c1 (fr_subc rfl h) _ _ _ _)
theorem fr_lp_X11_offerAll_0_tTx_10_c0 {n : Nat} {I : Nat → Nat → Int32} {A : Nat → Nat → Int32} {J : Nat → Nat → Int64} {t : Bool × Bool} {x1 : Int32} {x2 : Int32} {x3 : Int32} {c k : Nat} (h : (c, k) ∉ [(46, 5)]) : ∀ (f : Nat) (I10 : Nat → Nat → Int32) (A10 : Nat → Nat → Int32) (v10_4 : Int32), (lp_X11_offerAll_0_tTx_10 n I A J t x1 x2 x3 f I10 A10 v10_4).1 c k = I10 c k := by
  intro f
  induction f with
  | zero => intro _ _ _; rfl
  | succ f ih =>
    intro I10 A10 v10_4
    unfold lp_X11_offerAll_0_tTx_10
    split
    · exact rfl
    · exact (ih _ _ _).trans (fr_qIw25_X11_offerAll_0_tTx (fr_subp rfl h))
theorem fr_lp_X11_offerAll_0_tTx_10_c1 {n : Nat} {I : Nat → Nat → Int32} {A : Nat → Nat → Int32} {J : Nat → Nat → Int64} {t : Bool × Bool} {x1 : Int32} {x2 : Int32} {x3 : Int32} {c : Nat} (h : c ∉ [44, 45, 47, 48, 49, 51]) : ∀ (f : Nat) (I10 : Nat → Nat → Int32) (A10 : Nat → Nat → Int32) (v10_4 : Int32), (lp_X11_offerAll_0_tTx_10 n I A J t x1 x2 x3 f I10 A10 v10_4).2.1 c = A10 c := by
  intro f
  induction f with
  | zero => intro _ _ _; rfl
  | succ f ih =>
    intro I10 A10 v10_4
    unfold lp_X11_offerAll_0_tTx_10
    split
    · exact rfl
    · exact (ih _ _ _).trans (fr_qAw25_X11_offerAll_0_tTx (fr_subc rfl h))
theorem fr_qIw10_X11_offerAll_0_tTx {n : Nat} {I : Nat → Nat → Int32} {A : Nat → Nat → Int32} {J : Nat → Nat → Int64} {t : Bool × Bool} {x1 : Int32} {x2 : Int32} {x3 : Int32} {c k : Nat} (h : (c, k) ∉ [(46, 5)]) : qIw10_X11_offerAll_0_tTx n I A J t x1 x2 x3 c k = I c k := ((fr_lp_X11_offerAll_0_tTx_10_c0 (fr_subp rfl h) _ _ _ _).trans (fr_pI_X3_renew_46 (fr_subp rfl h)))
theorem fr_qAw10_X11_offerAll_0_tTx {n : Nat} {I : Nat → Nat → Int32} {A : Nat → Nat → Int32} {J : Nat → Nat → Int64} {t : Bool × Bool} {x1 : Int32} {x2 : Int32} {x3 : Int32} {c : Nat} (h : c ∉ [44, 45, 47, 48, 49, 50, 51]) : qAw10_X11_offerAll_0_tTx n I A J t x1 x2 x3 c = A c := ((fr_lp_X11_offerAll_0_tTx_10_c1 (fr_subc rfl h) _ _ _ _).trans (fr_pA_X3_renew_46 (fr_subc rfl h)))
theorem fr_pI_X11_offerAll_0_tTx {n : Nat} {I : Nat → Nat → Int32} {A : Nat → Nat → Int32} {J : Nat → Nat → Int64} {t : Bool × Bool} {x1 : Int32} {x2 : Int32} {x3 : Int32} {c k : Nat} (h : (c, k) ∉ [(46, 5)]) : pI_X11_offerAll_0_tTx n I A J t x1 x2 x3 c k = I c k := (fr_qIw10_X11_offerAll_0_tTx (fr_subp rfl h))
theorem fr_pA_X11_offerAll_0_tTx {n : Nat} {I : Nat → Nat → Int32} {A : Nat → Nat → Int32} {J : Nat → Nat → Int64} {t : Bool × Bool} {x1 : Int32} {x2 : Int32} {x3 : Int32} {c : Nat} (h : c ∉ [44, 45, 47, 48, 49, 50, 51]) : pA_X11_offerAll_0_tTx n I A J t x1 x2 x3 c = A c := (fr_qAw10_X11_offerAll_0_tTx (fr_subc rfl h))
theorem fr_lp_X11_schedule_0_tTx_44_c0 {n : Nat} {I : Nat → Nat → Int32} {A : Nat → Nat → Int32} {J : Nat → Nat → Int64} {t : Bool × Bool} {x1 : Int32} {x2 : Int32} {c k : Nat} (h : (c, k) ∉ [(46, 5)]) : ∀ (f : Nat) (I44 : Nat → Nat → Int32) (A44 : Nat → Nat → Int32) (v44_3 : Int32) (v44_4 : Int32), (lp_X11_schedule_0_tTx_44 n I A J t x1 x2 f I44 A44 v44_3 v44_4).1 c k = I44 c k := by
  intro f
  induction f with
  | zero => intro _ _ _ _; rfl
  | succ f ih =>
    intro I44 A44 v44_3 v44_4
    unfold lp_X11_schedule_0_tTx_44
    split
    · exact rfl
    · exact (ih _ _ _ _).trans (fr_pI_X11_offerAll_0_tTx (fr_subp rfl h))
theorem fr_lp_X11_schedule_0_tTx_44_c1 {n : Nat} {I : Nat → Nat → Int32} {A : Nat → Nat → Int32} {J : Nat → Nat → Int64} {t : Bool × Bool} {x1 : Int32} {x2 : Int32} {c : Nat} (h : c ∉ [44, 45, 47, 48, 49, 50, 51, 52, 54, 55, 56, 57, 58, 59]) : ∀ (f : Nat) (I44 : Nat → Nat → Int32) (A44 : Nat → Nat → Int32) (v44_3 : Int32) (v44_4 : Int32), (lp_X11_schedule_0_tTx_44 n I A J t x1 x2 f I44 A44 v44_3 v44_4).2.1 c = A44 c := by
  intro f
  induction f with
  | zero => intro _ _ _ _; rfl
  | succ f ih =>
    intro I44 A44 v44_3 v44_4
    unfold lp_X11_schedule_0_tTx_44
    split
    · exact rfl
    · exact (ih _ _ _ _).trans ((fr_pA_X11_settle_0 (fr_subc rfl h)).trans ((fr_pA_X3_solve_46 (fr_subc rfl h)).trans (fr_pA_X11_offerAll_0_tTx (fr_subc rfl h))))
theorem fr_qIw44_X11_schedule_0_tTx {n : Nat} {I : Nat → Nat → Int32} {A : Nat → Nat → Int32} {J : Nat → Nat → Int64} {t : Bool × Bool} {x1 : Int32} {x2 : Int32} {c k : Nat} (h : (c, k) ∉ [(46, 5), (53, 6), (53, 7)]) : qIw44_X11_schedule_0_tTx n I A J t x1 x2 c k = I c k := ((fr_lp_X11_schedule_0_tTx_44_c0 (fr_subp rfl h) _ _ _ _ _).trans (fr_pI_X5_renew_53 (fr_subp rfl h)))
theorem fr_qAw44_X11_schedule_0_tTx {n : Nat} {I : Nat → Nat → Int32} {A : Nat → Nat → Int32} {J : Nat → Nat → Int64} {t : Bool × Bool} {x1 : Int32} {x2 : Int32} {c : Nat} (h : c ∉ [30, 31, 44, 45, 47, 48, 49, 50, 51, 52, 54, 55, 56, 57, 58, 59]) : qAw44_X11_schedule_0_tTx n I A J t x1 x2 c = A c := ((fr_lp_X11_schedule_0_tTx_44_c1 (fr_subc rfl h) _ _ _ _ _).trans ((fr_pA_X5_renew_53 (fr_subc rfl h)).trans (fr_pA_X11_learn_0 (fr_subc rfl h))))
theorem fr_pI_X11_schedule_0_tTx {n : Nat} {I : Nat → Nat → Int32} {A : Nat → Nat → Int32} {J : Nat → Nat → Int64} {t : Bool × Bool} {x1 : Int32} {x2 : Int32} {c k : Nat} (h : (c, k) ∉ [(46, 5), (53, 6), (53, 7)]) : pI_X11_schedule_0_tTx n I A J t x1 x2 c k = I c k := (fr_itep rfl (fr_itep rfl (fr_qIw44_X11_schedule_0_tTx (fr_subp rfl h))))
theorem fr_pA_X11_schedule_0_tTx {n : Nat} {I : Nat → Nat → Int32} {A : Nat → Nat → Int32} {J : Nat → Nat → Int64} {t : Bool × Bool} {x1 : Int32} {x2 : Int32} {c : Nat} (h : c ∉ [30, 31, 44, 45, 47, 48, 49, 50, 51, 52, 54, 55, 56, 57, 58, 59]) : pA_X11_schedule_0_tTx n I A J t x1 x2 c = A c := (fr_itec rfl (fr_itec rfl (fr_qAw44_X11_schedule_0_tTx (fr_subc rfl h))))
