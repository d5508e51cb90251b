/-! the class's parser: what does not turn on the draft -/
theorem cu_s {α : Type} {f : Nat → Nat → α} {c k : Nat} {x : α} : cw_u f c k x c k = x := cw_u_s f c k x
theorem nI_pr {w : Nat} (h : 1 ≤ w) : nI w - 1 = nI (w - 1) := by
  obtain ⟨m, rfl⟩ : ∃ m, w = m + 1 := ⟨w - 1, by omega⟩
  exact nI_pred m
def rkk (x : Int32) : Int32 := px_X4_rank 0 (fun _ _ => 0) (fun _ _ => 0) (fun _ _ => 0) (false, false) x
section Sb
variable {n : Nat} {I A : Nat → Nat → Int32} {J : Nat → Nat → Int64} {t : Bool × Bool} {x : Int32}
theorem sb_0 (h : I 33 4 = 0) : px_X4_stateBehind_33 n I A J t x = if x = 13 then 1 else if x = 14 then 1 else -1 := by
  unfold px_X4_stateBehind_33; rw [h]; rfl
theorem sb_1 (h : I 33 4 = 1) : px_X4_stateBehind_33 n I A J t x = if x = 15 then 2 else -1 := by
  unfold px_X4_stateBehind_33; rw [h]; rfl
theorem sb_2 (h : I 33 4 = 2) : px_X4_stateBehind_33 n I A J t x = if x = 16 then 3 else if x = 17 then 5 else if x = 18 then 7 else if x = 3 then 0 else -1 := by
  unfold px_X4_stateBehind_33 px_X4_stateBehindDays_33 qs0m44_X4_stateBehindDays_33; rw [h]
  simp
theorem sb_3 (h : I 33 4 = 3) : px_X4_stateBehind_33 n I A J t x = if x = 2 then 4 else -1 := by
  unfold px_X4_stateBehind_33; rw [h]; rfl
theorem sb_4 (h : I 33 4 = 4) : px_X4_stateBehind_33 n I A J t x = if x = 17 then 5 else if x = 18 then 7 else if x = 3 then 0 else -1 := by
  unfold px_X4_stateBehind_33 px_X4_stateBehindDays_33 qs0m44_X4_stateBehindDays_33; rw [h]
  simp
theorem sb_5 (h : I 33 4 = 5) : px_X4_stateBehind_33 n I A J t x = if x = 2 then 6 else -1 := by
  unfold px_X4_stateBehind_33; rw [h]; rfl
theorem sb_6 (h : I 33 4 = 6) : px_X4_stateBehind_33 n I A J t x = if x = 18 then 7 else if x = 3 then 0 else -1 := by
  unfold px_X4_stateBehind_33 px_X4_stateBehindDays_33 qs0m44_X4_stateBehindDays_33; rw [h]
  simp
theorem sb_7 (h : I 33 4 = 7) : px_X4_stateBehind_33 n I A J t x = if x = 11 then 7 else if x = 2 then 8 else if x < 20 then -1 else 8 := by
  unfold px_X4_stateBehind_33; rw [h]; rfl
theorem sb_8 (h : I 33 4 = 8) : px_X4_stateBehind_33 n I A J t x = if x = 4 then 7 else if x = 5 then 7 else if x = 6 then 7 else if I 33 5 ≤ 0 then (if I 33 6 = 0 then (if (if x < 7 then (0 : Int32) else if 10 < x then 0 else 1) = 0 then -1 else 7) else if x = 19 then 7 else if x = 3 then 0 else -1) else if x = 12 then 8 else -1 := by
  unfold px_X4_stateBehind_33; rw [h]; rfl
end Sb
