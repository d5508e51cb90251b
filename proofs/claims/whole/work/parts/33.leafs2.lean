def q4_J7_fill_53178_30 (n : Nat) (I : Nat → Nat → Int32) (A : Nat → Nat → Int32) (J : Nat → Nat → Int64) (t : Bool × Bool) (x1 : Int32) : Int32 := (nI 192)
def qA13_J7_fill_53178_30 (n : Nat) (I : Nat → Nat → Int32) (A : Nat → Nat → Int32) (J : Nat → Nat → Int64) (t : Bool × Bool) (x1 : Int32) (A5 : Nat → Nat → Int32) (v5_2 : Int32) : Nat → Nat → Int32 := cw_u A5 30 (v5_2).toNatClampNeg x1
def q14_J7_fill_53178_30 (n : Nat) (I : Nat → Nat → Int32) (A : Nat → Nat → Int32) (J : Nat → Nat → Int64) (t : Bool × Bool) (x1 : Int32) (A5 : Nat → Nat → Int32) (v5_2 : Int32) : Int32 := v5_2 + 1
def lp_J7_fill_53178_30_5 (n : Nat) (I : Nat → Nat → Int32) (A : Nat → Nat → Int32) (J : Nat → Nat → Int64) (t : Bool × Bool) (x1 : Int32) : Nat → (Nat → Nat → Int32) → (Int32) → (Nat → Nat → Int32) × Int32
  | 0, A5, v5_2 => (A5, v5_2)
  | f + 1, A5, v5_2 => if (q4_J7_fill_53178_30 n I A J t x1) ≤ v5_2 then (A5, v5_2) else lp_J7_fill_53178_30_5 n I A J t x1 f (qA13_J7_fill_53178_30 n I A J t x1 A5 v5_2) (q14_J7_fill_53178_30 n I A J t x1 A5 v5_2)
def lb_J7_fill_53178_30_5 (n : Nat) (I : Nat → Nat → Int32) (A : Nat → Nat → Int32) (J : Nat → Nat → Int64) (t : Bool × Bool) (x1 : Int32) : Nat → (Nat → Nat → Int32) → (Int32) → Prop
  | 0, _, _ => False
  | f + 1, A5, v5_2 => (¬ (q4_J7_fill_53178_30 n I A J t x1) ≤ v5_2 → vp_in v5_2 192 ∧ lb_J7_fill_53178_30_5 n I A J t x1 f (qA13_J7_fill_53178_30 n I A J t x1 A5 v5_2) (q14_J7_fill_53178_30 n I A J t x1 A5 v5_2))
def qAw5_J7_fill_53178_30 (n : Nat) (I : Nat → Nat → Int32) (A : Nat → Nat → Int32) (J : Nat → Nat → Int64) (t : Bool × Bool) (x1 : Int32) : Nat → Nat → Int32 := (lp_J7_fill_53178_30_5 n I A J t x1 n A 0).1
def q2w5_J7_fill_53178_30 (n : Nat) (I : Nat → Nat → Int32) (A : Nat → Nat → Int32) (J : Nat → Nat → Int64) (t : Bool × Bool) (x1 : Int32) : Int32 := (lp_J7_fill_53178_30_5 n I A J t x1 n A 0).2
def pb_J7_fill_53178_30 (n : Nat) (I : Nat → Nat → Int32) (A : Nat → Nat → Int32) (J : Nat → Nat → Int64) (t : Bool × Bool) (x1 : Int32) : Prop := lb_J7_fill_53178_30_5 n I A J t x1 n A 0
def pA_J7_fill_53178_30 (n : Nat) (I : Nat → Nat → Int32) (A : Nat → Nat → Int32) (J : Nat → Nat → Int64) (t : Bool × Bool) (x1 : Int32) : Nat → Nat → Int32 := (qAw5_J7_fill_53178_30 n I A J t x1)
set_option maxRecDepth 100000 in
set_option maxHeartbeats 4000000 in
theorem lt_J7_fill_53178_30_5 (g : cw_G) (n : Nat) (I : Nat → Nat → Int32) (A : Nat → Nat → Int32) (J : Nat → Nat → Int64) (t : Bool × Bool) (x1 : Int32) {Q : Option Value → cw_H → Prop} : ∀ (f : Nat) (A5 : Nat → Nat → Int32) (v5_2 : Int32) (w0 : Nat → Nat → Int32) (w1 : Int32), lb_J7_fill_53178_30_5 n I A J t x1 f A5 v5_2 → (lp_J7_fill_53178_30_5 n I A J t x1 f A5 v5_2).1 = w0 → (lp_J7_fill_53178_30_5 n I A J t x1 f A5 v5_2).2 = w1 → Ev g mJ7_fill_53178 0 0 20 [some (.ref (cw_z g + 30)), some (.int x1), some (.int w1), some (.int (q4_J7_fill_53178_30 n I A J t x1))] [] (hp g I w0 J t) Q → Ev g mJ7_fill_53178 0 0 5 [some (.ref (cw_z g + 30)), some (.int x1), some (.int v5_2), some (.int (q4_J7_fill_53178_30 n I A J t x1))] [] (hp g I A5 J t) Q := by
  intro f
  induction f with
  | zero =>
    intro A5 v5_2 w0 w1 hb
    exact hb.elim
  | succ f ih =>
    intro A5 v5_2 w0 w1 hb h0 h1 hE
    rw [lb_J7_fill_53178_30_5] at hb
    rw [lp_J7_fill_53178_30_5] at h0 h1
    refine ev_iload_n (pc := 5) dJ7_fill_53178_5 rfl ?_
    refine ev_iload_n (pc := 6) dJ7_fill_53178_6 rfl ?_
    have hF_7 := hb
    refine ev_icmp_ge (pc := 7) (tgt := 20) dJ7_fill_53178_7 (by decide) (fun c_7 => ?_) (fun c_7 => ?_)
    · try simp only [if_pos c_7] at h0
      try simp only [if_pos c_7] at h1
      subst h0
      subst h1
      exact ev_loc hE cw_le0
    · have hb := hF_7 c_7
      try simp only [if_neg c_7] at h0
      try simp only [if_neg c_7] at h1
      refine ev_aload_n (pc := 10) dJ7_fill_53178_10 rfl ?_
      refine ev_iload_n (pc := 11) dJ7_fill_53178_11 rfl ?_
      refine ev_iload_n (pc := 12) dJ7_fill_53178_12 rfl ?_
      refine tw_iast (pc := 13) (A2 := (qA13_J7_fill_53178_30 n I A J t x1 A5 v5_2)) dJ7_fill_53178_13 (by decide) rfl hb.1 rfl ?_
      replace hb := hb.2
      refine ev_iinc_2 (pc := 14) (v := (q14_J7_fill_53178_30 n I A J t x1 A5 v5_2)) dJ7_fill_53178_14 (by decide) rfl rfl ?_
      refine ev_goto (pc := 17) (tgt := 5) dJ7_fill_53178_17 (by decide) ?_
      exact ev_loc (ih (qA13_J7_fill_53178_30 n I A J t x1 A5 v5_2) (q14_J7_fill_53178_30 n I A J t x1 A5 v5_2) w0 w1 hb h0 h1 hE) cw_le0

set_option maxRecDepth 100000 in
set_option maxHeartbeats 4000000 in
theorem cv_J7_fill_53178_30 (g : cw_G) (n : Nat) (I : Nat → Nat → Int32) (A : Nat → Nat → Int32) (J : Nat → Nat → Int64) (t : Bool × Bool) (x1 : Int32) (hb : pb_J7_fill_53178_30 n I A J t x1) : Cd g mJ7_fill_53178 [(.ref (cw_z g + 30)), (.int x1)] (hp g I A J t) none (hp g I (pA_J7_fill_53178_30 n I A J t x1) J t) := by
  unfold pb_J7_fill_53178_30 at hb
  unfold pA_J7_fill_53178_30
  refine Cd.of rfl (Nat.le_of_ble_eq_true rfl) (ev_gen (fun Q hQ => ?_))
  refine ev_iconst (pc := 0) (v := 0) dJ7_fill_53178_0 (by decide) ?_
  refine ev_istore_2 (pc := 1) dJ7_fill_53178_1 (by decide) rfl ?_
  refine ev_aload_n (pc := 2) dJ7_fill_53178_2 rfl ?_
  refine ev_alen (pc := 3) dJ7_fill_53178_3 (show 30 < 120 by decide) rfl (by decide) ?_
  refine ev_is (y := (q4_J7_fill_53178_30 n I A J t x1)) rfl ?_
  refine ev_istore_3 (pc := 4) dJ7_fill_53178_4 (by decide) rfl ?_
  refine lt_J7_fill_53178_30_5 g n I A J t x1 n A 0 (qAw5_J7_fill_53178_30 n I A J t x1) (q2w5_J7_fill_53178_30 n I A J t x1) hb rfl rfl ?_
  exact ev_vret (pc := 20) dJ7_fill_53178_20 rfl (by decide) (by decide) (hQ _ _ ⟨rfl, rfl⟩)

def q4_J7_fill_53178_31 (n : Nat) (I : Nat → Nat → Int32) (A : Nat → Nat → Int32) (J : Nat → Nat → Int64) (t : Bool × Bool) (x1 : Int32) : Int32 := (nI 192)
def qA13_J7_fill_53178_31 (n : Nat) (I : Nat → Nat → Int32) (A : Nat → Nat → Int32) (J : Nat → Nat → Int64) (t : Bool × Bool) (x1 : Int32) (A5 : Nat → Nat → Int32) (v5_2 : Int32) : Nat → Nat → Int32 := cw_u A5 31 (v5_2).toNatClampNeg x1
def q14_J7_fill_53178_31 (n : Nat) (I : Nat → Nat → Int32) (A : Nat → Nat → Int32) (J : Nat → Nat → Int64) (t : Bool × Bool) (x1 : Int32) (A5 : Nat → Nat → Int32) (v5_2 : Int32) : Int32 := v5_2 + 1
def lp_J7_fill_53178_31_5 (n : Nat) (I : Nat → Nat → Int32) (A : Nat → Nat → Int32) (J : Nat → Nat → Int64) (t : Bool × Bool) (x1 : Int32) : Nat → (Nat → Nat → Int32) → (Int32) → (Nat → Nat → Int32) × Int32
  | 0, A5, v5_2 => (A5, v5_2)
  | f + 1, A5, v5_2 => if (q4_J7_fill_53178_31 n I A J t x1) ≤ v5_2 then (A5, v5_2) else lp_J7_fill_53178_31_5 n I A J t x1 f (qA13_J7_fill_53178_31 n I A J t x1 A5 v5_2) (q14_J7_fill_53178_31 n I A J t x1 A5 v5_2)
def lb_J7_fill_53178_31_5 (n : Nat) (I : Nat → Nat → Int32) (A : Nat → Nat → Int32) (J : Nat → Nat → Int64) (t : Bool × Bool) (x1 : Int32) : Nat → (Nat → Nat → Int32) → (Int32) → Prop
  | 0, _, _ => False
  | f + 1, A5, v5_2 => (¬ (q4_J7_fill_53178_31 n I A J t x1) ≤ v5_2 → vp_in v5_2 192 ∧ lb_J7_fill_53178_31_5 n I A J t x1 f (qA13_J7_fill_53178_31 n I A J t x1 A5 v5_2) (q14_J7_fill_53178_31 n I A J t x1 A5 v5_2))
def qAw5_J7_fill_53178_31 (n : Nat) (I : Nat → Nat → Int32) (A : Nat → Nat → Int32) (J : Nat → Nat → Int64) (t : Bool × Bool) (x1 : Int32) : Nat → Nat → Int32 := (lp_J7_fill_53178_31_5 n I A J t x1 n A 0).1
def q2w5_J7_fill_53178_31 (n : Nat) (I : Nat → Nat → Int32) (A : Nat → Nat → Int32) (J : Nat → Nat → Int64) (t : Bool × Bool) (x1 : Int32) : Int32 := (lp_J7_fill_53178_31_5 n I A J t x1 n A 0).2
def pb_J7_fill_53178_31 (n : Nat) (I : Nat → Nat → Int32) (A : Nat → Nat → Int32) (J : Nat → Nat → Int64) (t : Bool × Bool) (x1 : Int32) : Prop := lb_J7_fill_53178_31_5 n I A J t x1 n A 0
def pA_J7_fill_53178_31 (n : Nat) (I : Nat → Nat → Int32) (A : Nat → Nat → Int32) (J : Nat → Nat → Int64) (t : Bool × Bool) (x1 : Int32) : Nat → Nat → Int32 := (qAw5_J7_fill_53178_31 n I A J t x1)
set_option maxRecDepth 100000 in
set_option maxHeartbeats 4000000 in
theorem lt_J7_fill_53178_31_5 (g : cw_G) (n : Nat) (I : Nat → Nat → Int32) (A : Nat → Nat → Int32) (J : Nat → Nat → Int64) (t : Bool × Bool) (x1 : Int32) {Q : Option Value → cw_H → Prop} : ∀ (f : Nat) (A5 : Nat → Nat → Int32) (v5_2 : Int32) (w0 : Nat → Nat → Int32) (w1 : Int32), lb_J7_fill_53178_31_5 n I A J t x1 f A5 v5_2 → (lp_J7_fill_53178_31_5 n I A J t x1 f A5 v5_2).1 = w0 → (lp_J7_fill_53178_31_5 n I A J t x1 f A5 v5_2).2 = w1 → Ev g mJ7_fill_53178 0 0 20 [some (.ref (cw_z g + 31)), some (.int x1), some (.int w1), some (.int (q4_J7_fill_53178_31 n I A J t x1))] [] (hp g I w0 J t) Q → Ev g mJ7_fill_53178 0 0 5 [some (.ref (cw_z g + 31)), some (.int x1), some (.int v5_2), some (.int (q4_J7_fill_53178_31 n I A J t x1))] [] (hp g I A5 J t) Q := by
  intro f
  induction f with
  | zero =>
    intro A5 v5_2 w0 w1 hb
    exact hb.elim
  | succ f ih =>
    intro A5 v5_2 w0 w1 hb h0 h1 hE
    rw [lb_J7_fill_53178_31_5] at hb
    rw [lp_J7_fill_53178_31_5] at h0 h1
    refine ev_iload_n (pc := 5) dJ7_fill_53178_5 rfl ?_
    refine ev_iload_n (pc := 6) dJ7_fill_53178_6 rfl ?_
    have hF_7 := hb
    refine ev_icmp_ge (pc := 7) (tgt := 20) dJ7_fill_53178_7 (by decide) (fun c_7 => ?_) (fun c_7 => ?_)
    · try simp only [if_pos c_7] at h0
      try simp only [if_pos c_7] at h1
      subst h0
      subst h1
      exact ev_loc hE cw_le0
    · have hb := hF_7 c_7
      try simp only [if_neg c_7] at h0
      try simp only [if_neg c_7] at h1
      refine ev_aload_n (pc := 10) dJ7_fill_53178_10 rfl ?_
      refine ev_iload_n (pc := 11) dJ7_fill_53178_11 rfl ?_
      refine ev_iload_n (pc := 12) dJ7_fill_53178_12 rfl ?_
      refine tw_iast (pc := 13) (A2 := (qA13_J7_fill_53178_31 n I A J t x1 A5 v5_2)) dJ7_fill_53178_13 (by decide) rfl hb.1 rfl ?_
      replace hb := hb.2
      refine ev_iinc_2 (pc := 14) (v := (q14_J7_fill_53178_31 n I A J t x1 A5 v5_2)) dJ7_fill_53178_14 (by decide) rfl rfl ?_
      refine ev_goto (pc := 17) (tgt := 5) dJ7_fill_53178_17 (by decide) ?_
      exact ev_loc (ih (qA13_J7_fill_53178_31 n I A J t x1 A5 v5_2) (q14_J7_fill_53178_31 n I A J t x1 A5 v5_2) w0 w1 hb h0 h1 hE) cw_le0

set_option maxRecDepth 100000 in
set_option maxHeartbeats 4000000 in
theorem cv_J7_fill_53178_31 (g : cw_G) (n : Nat) (I : Nat → Nat → Int32) (A : Nat → Nat → Int32) (J : Nat → Nat → Int64) (t : Bool × Bool) (x1 : Int32) (hb : pb_J7_fill_53178_31 n I A J t x1) : Cd g mJ7_fill_53178 [(.ref (cw_z g + 31)), (.int x1)] (hp g I A J t) none (hp g I (pA_J7_fill_53178_31 n I A J t x1) J t) := by
  unfold pb_J7_fill_53178_31 at hb
  unfold pA_J7_fill_53178_31
  refine Cd.of rfl (Nat.le_of_ble_eq_true rfl) (ev_gen (fun Q hQ => ?_))
  refine ev_iconst (pc := 0) (v := 0) dJ7_fill_53178_0 (by decide) ?_
  refine ev_istore_2 (pc := 1) dJ7_fill_53178_1 (by decide) rfl ?_
  refine ev_aload_n (pc := 2) dJ7_fill_53178_2 rfl ?_
  refine ev_alen (pc := 3) dJ7_fill_53178_3 (show 31 < 120 by decide) rfl (by decide) ?_
  refine ev_is (y := (q4_J7_fill_53178_31 n I A J t x1)) rfl ?_
  refine ev_istore_3 (pc := 4) dJ7_fill_53178_4 (by decide) rfl ?_
  refine lt_J7_fill_53178_31_5 g n I A J t x1 n A 0 (qAw5_J7_fill_53178_31 n I A J t x1) (q2w5_J7_fill_53178_31 n I A J t x1) hb rfl rfl ?_
  exact ev_vret (pc := 20) dJ7_fill_53178_20 rfl (by decide) (by decide) (hQ _ _ ⟨rfl, rfl⟩)

def q4_J7_fill_53178_54 (n : Nat) (I : Nat → Nat → Int32) (A : Nat → Nat → Int32) (J : Nat → Nat → Int64) (t : Bool × Bool) (x1 : Int32) : Int32 := (nI 240)
def qA13_J7_fill_53178_54 (n : Nat) (I : Nat → Nat → Int32) (A : Nat → Nat → Int32) (J : Nat → Nat → Int64) (t : Bool × Bool) (x1 : Int32) (A5 : Nat → Nat → Int32) (v5_2 : Int32) : Nat → Nat → Int32 := cw_u A5 54 (v5_2).toNatClampNeg x1
def q14_J7_fill_53178_54 (n : Nat) (I : Nat → Nat → Int32) (A : Nat → Nat → Int32) (J : Nat → Nat → Int64) (t : Bool × Bool) (x1 : Int32) (A5 : Nat → Nat → Int32) (v5_2 : Int32) : Int32 := v5_2 + 1
def lp_J7_fill_53178_54_5 (n : Nat) (I : Nat → Nat → Int32) (A : Nat → Nat → Int32) (J : Nat → Nat → Int64) (t : Bool × Bool) (x1 : Int32) : Nat → (Nat → Nat → Int32) → (Int32) → (Nat → Nat → Int32) × Int32
  | 0, A5, v5_2 => (A5, v5_2)
  | f + 1, A5, v5_2 => if (q4_J7_fill_53178_54 n I A J t x1) ≤ v5_2 then (A5, v5_2) else lp_J7_fill_53178_54_5 n I A J t x1 f (qA13_J7_fill_53178_54 n I A J t x1 A5 v5_2) (q14_J7_fill_53178_54 n I A J t x1 A5 v5_2)
def lb_J7_fill_53178_54_5 (n : Nat) (I : Nat → Nat → Int32) (A : Nat → Nat → Int32) (J : Nat → Nat → Int64) (t : Bool × Bool) (x1 : Int32) : Nat → (Nat → Nat → Int32) → (Int32) → Prop
  | 0, _, _ => False
  | f + 1, A5, v5_2 => (¬ (q4_J7_fill_53178_54 n I A J t x1) ≤ v5_2 → vp_in v5_2 240 ∧ lb_J7_fill_53178_54_5 n I A J t x1 f (qA13_J7_fill_53178_54 n I A J t x1 A5 v5_2) (q14_J7_fill_53178_54 n I A J t x1 A5 v5_2))
def qAw5_J7_fill_53178_54 (n : Nat) (I : Nat → Nat → Int32) (A : Nat → Nat → Int32) (J : Nat → Nat → Int64) (t : Bool × Bool) (x1 : Int32) : Nat → Nat → Int32 := (lp_J7_fill_53178_54_5 n I A J t x1 n A 0).1
def q2w5_J7_fill_53178_54 (n : Nat) (I : Nat → Nat → Int32) (A : Nat → Nat → Int32) (J : Nat → Nat → Int64) (t : Bool × Bool) (x1 : Int32) : Int32 := (lp_J7_fill_53178_54_5 n I A J t x1 n A 0).2
def pb_J7_fill_53178_54 (n : Nat) (I : Nat → Nat → Int32) (A : Nat → Nat → Int32) (J : Nat → Nat → Int64) (t : Bool × Bool) (x1 : Int32) : Prop := lb_J7_fill_53178_54_5 n I A J t x1 n A 0
def pA_J7_fill_53178_54 (n : Nat) (I : Nat → Nat → Int32) (A : Nat → Nat → Int32) (J : Nat → Nat → Int64) (t : Bool × Bool) (x1 : Int32) : Nat → Nat → Int32 := (qAw5_J7_fill_53178_54 n I A J t x1)
set_option maxRecDepth 100000 in
set_option maxHeartbeats 4000000 in
theorem lt_J7_fill_53178_54_5 (g : cw_G) (n : Nat) (I : Nat → Nat → Int32) (A : Nat → Nat → Int32) (J : Nat → Nat → Int64) (t : Bool × Bool) (x1 : Int32) {Q : Option Value → cw_H → Prop} : ∀ (f : Nat) (A5 : Nat → Nat → Int32) (v5_2 : Int32) (w0 : Nat → Nat → Int32) (w1 : Int32), lb_J7_fill_53178_54_5 n I A J t x1 f A5 v5_2 → (lp_J7_fill_53178_54_5 n I A J t x1 f A5 v5_2).1 = w0 → (lp_J7_fill_53178_54_5 n I A J t x1 f A5 v5_2).2 = w1 → Ev g mJ7_fill_53178 0 0 20 [some (.ref (cw_z g + 54)), some (.int x1), some (.int w1), some (.int (q4_J7_fill_53178_54 n I A J t x1))] [] (hp g I w0 J t) Q → Ev g mJ7_fill_53178 0 0 5 [some (.ref (cw_z g + 54)), some (.int x1), some (.int v5_2), some (.int (q4_J7_fill_53178_54 n I A J t x1))] [] (hp g I A5 J t) Q := by
  intro f
  induction f with
  | zero =>
    intro A5 v5_2 w0 w1 hb
    exact hb.elim
  | succ f ih =>
    intro A5 v5_2 w0 w1 hb h0 h1 hE
    rw [lb_J7_fill_53178_54_5] at hb
    rw [lp_J7_fill_53178_54_5] at h0 h1
    refine ev_iload_n (pc := 5) dJ7_fill_53178_5 rfl ?_
    refine ev_iload_n (pc := 6) dJ7_fill_53178_6 rfl ?_
    have hF_7 := hb
    refine ev_icmp_ge (pc := 7) (tgt := 20) dJ7_fill_53178_7 (by decide) (fun c_7 => ?_) (fun c_7 => ?_)
    · try simp only [if_pos c_7] at h0
      try simp only [if_pos c_7] at h1
      subst h0
      subst h1
      exact ev_loc hE cw_le0
    · have hb := hF_7 c_7
      try simp only [if_neg c_7] at h0
      try simp only [if_neg c_7] at h1
      refine ev_aload_n (pc := 10) dJ7_fill_53178_10 rfl ?_
      refine ev_iload_n (pc := 11) dJ7_fill_53178_11 rfl ?_
      refine ev_iload_n (pc := 12) dJ7_fill_53178_12 rfl ?_
      refine tw_iast (pc := 13) (A2 := (qA13_J7_fill_53178_54 n I A J t x1 A5 v5_2)) dJ7_fill_53178_13 (by decide) rfl hb.1 rfl ?_
      replace hb := hb.2
      refine ev_iinc_2 (pc := 14) (v := (q14_J7_fill_53178_54 n I A J t x1 A5 v5_2)) dJ7_fill_53178_14 (by decide) rfl rfl ?_
      refine ev_goto (pc := 17) (tgt := 5) dJ7_fill_53178_17 (by decide) ?_
      exact ev_loc (ih (qA13_J7_fill_53178_54 n I A J t x1 A5 v5_2) (q14_J7_fill_53178_54 n I A J t x1 A5 v5_2) w0 w1 hb h0 h1 hE) cw_le0

set_option maxRecDepth 100000 in
set_option maxHeartbeats 4000000 in
theorem cv_J7_fill_53178_54 (g : cw_G) (n : Nat) (I : Nat → Nat → Int32) (A : Nat → Nat → Int32) (J : Nat → Nat → Int64) (t : Bool × Bool) (x1 : Int32) (hb : pb_J7_fill_53178_54 n I A J t x1) : Cd g mJ7_fill_53178 [(.ref (cw_z g + 54)), (.int x1)] (hp g I A J t) none (hp g I (pA_J7_fill_53178_54 n I A J t x1) J t) := by
  unfold pb_J7_fill_53178_54 at hb
  unfold pA_J7_fill_53178_54
  refine Cd.of rfl (Nat.le_of_ble_eq_true rfl) (ev_gen (fun Q hQ => ?_))
  refine ev_iconst (pc := 0) (v := 0) dJ7_fill_53178_0 (by decide) ?_
  refine ev_istore_2 (pc := 1) dJ7_fill_53178_1 (by decide) rfl ?_
  refine ev_aload_n (pc := 2) dJ7_fill_53178_2 rfl ?_
  refine ev_alen (pc := 3) dJ7_fill_53178_3 (show 54 < 120 by decide) rfl (by decide) ?_
  refine ev_is (y := (q4_J7_fill_53178_54 n I A J t x1)) rfl ?_
  refine ev_istore_3 (pc := 4) dJ7_fill_53178_4 (by decide) rfl ?_
  refine lt_J7_fill_53178_54_5 g n I A J t x1 n A 0 (qAw5_J7_fill_53178_54 n I A J t x1) (q2w5_J7_fill_53178_54 n I A J t x1) hb rfl rfl ?_
  exact ev_vret (pc := 20) dJ7_fill_53178_20 rfl (by decide) (by decide) (hQ _ _ ⟨rfl, rfl⟩)

def q4_J7_fill_53178_55 (n : Nat) (I : Nat → Nat → Int32) (A : Nat → Nat → Int32) (J : Nat → Nat → Int64) (t : Bool × Bool) (x1 : Int32) : Int32 := (nI 240)
def qA13_J7_fill_53178_55 (n : Nat) (I : Nat → Nat → Int32) (A : Nat → Nat → Int32) (J : Nat → Nat → Int64) (t : Bool × Bool) (x1 : Int32) (A5 : Nat → Nat → Int32) (v5_2 : Int32) : Nat → Nat → Int32 := cw_u A5 55 (v5_2).toNatClampNeg x1
def q14_J7_fill_53178_55 (n : Nat) (I : Nat → Nat → Int32) (A : Nat → Nat → Int32) (J : Nat → Nat → Int64) (t : Bool × Bool) (x1 : Int32) (A5 : Nat → Nat → Int32) (v5_2 : Int32) : Int32 := v5_2 + 1
def lp_J7_fill_53178_55_5 (n : Nat) (I : Nat → Nat → Int32) (A : Nat → Nat → Int32) (J : Nat → Nat → Int64) (t : Bool × Bool) (x1 : Int32) : Nat → (Nat → Nat → Int32) → (Int32) → (Nat → Nat → Int32) × Int32
  | 0, A5, v5_2 => (A5, v5_2)
  | f + 1, A5, v5_2 => if (q4_J7_fill_53178_55 n I A J t x1) ≤ v5_2 then (A5, v5_2) else lp_J7_fill_53178_55_5 n I A J t x1 f (qA13_J7_fill_53178_55 n I A J t x1 A5 v5_2) (q14_J7_fill_53178_55 n I A J t x1 A5 v5_2)
def lb_J7_fill_53178_55_5 (n : Nat) (I : Nat → Nat → Int32) (A : Nat → Nat → Int32) (J : Nat → Nat → Int64) (t : Bool × Bool) (x1 : Int32) : Nat → (Nat → Nat → Int32) → (Int32) → Prop
  | 0, _, _ => False
  | f + 1, A5, v5_2 => (¬ (q4_J7_fill_53178_55 n I A J t x1) ≤ v5_2 → vp_in v5_2 240 ∧ lb_J7_fill_53178_55_5 n I A J t x1 f (qA13_J7_fill_53178_55 n I A J t x1 A5 v5_2) (q14_J7_fill_53178_55 n I A J t x1 A5 v5_2))
def qAw5_J7_fill_53178_55 (n : Nat) (I : Nat → Nat → Int32) (A : Nat → Nat → Int32) (J : Nat → Nat → Int64) (t : Bool × Bool) (x1 : Int32) : Nat → Nat → Int32 := (lp_J7_fill_53178_55_5 n I A J t x1 n A 0).1
def q2w5_J7_fill_53178_55 (n : Nat) (I : Nat → Nat → Int32) (A : Nat → Nat → Int32) (J : Nat → Nat → Int64) (t : Bool × Bool) (x1 : Int32) : Int32 := (lp_J7_fill_53178_55_5 n I A J t x1 n A 0).2
def pb_J7_fill_53178_55 (n : Nat) (I : Nat → Nat → Int32) (A : Nat → Nat → Int32) (J : Nat → Nat → Int64) (t : Bool × Bool) (x1 : Int32) : Prop := lb_J7_fill_53178_55_5 n I A J t x1 n A 0
def pA_J7_fill_53178_55 (n : Nat) (I : Nat → Nat → Int32) (A : Nat → Nat → Int32) (J : Nat → Nat → Int64) (t : Bool × Bool) (x1 : Int32) : Nat → Nat → Int32 := (qAw5_J7_fill_53178_55 n I A J t x1)
set_option maxRecDepth 100000 in
set_option maxHeartbeats 4000000 in
theorem lt_J7_fill_53178_55_5 (g : cw_G) (n : Nat) (I : Nat → Nat → Int32) (A : Nat → Nat → Int32) (J : Nat → Nat → Int64) (t : Bool × Bool) (x1 : Int32) {Q : Option Value → cw_H → Prop} : ∀ (f : Nat) (A5 : Nat → Nat → Int32) (v5_2 : Int32) (w0 : Nat → Nat → Int32) (w1 : Int32), lb_J7_fill_53178_55_5 n I A J t x1 f A5 v5_2 → (lp_J7_fill_53178_55_5 n I A J t x1 f A5 v5_2).1 = w0 → (lp_J7_fill_53178_55_5 n I A J t x1 f A5 v5_2).2 = w1 → Ev g mJ7_fill_53178 0 0 20 [some (.ref (cw_z g + 55)), some (.int x1), some (.int w1), some (.int (q4_J7_fill_53178_55 n I A J t x1))] [] (hp g I w0 J t) Q → Ev g mJ7_fill_53178 0 0 5 [some (.ref (cw_z g + 55)), some (.int x1), some (.int v5_2), some (.int (q4_J7_fill_53178_55 n I A J t x1))] [] (hp g I A5 J t) Q := by
  intro f
  induction f with
  | zero =>
    intro A5 v5_2 w0 w1 hb
    exact hb.elim
  | succ f ih =>
    intro A5 v5_2 w0 w1 hb h0 h1 hE
    rw [lb_J7_fill_53178_55_5] at hb
    rw [lp_J7_fill_53178_55_5] at h0 h1
    refine ev_iload_n (pc := 5) dJ7_fill_53178_5 rfl ?_
    refine ev_iload_n (pc := 6) dJ7_fill_53178_6 rfl ?_
    have hF_7 := hb
    refine ev_icmp_ge (pc := 7) (tgt := 20) dJ7_fill_53178_7 (by decide) (fun c_7 => ?_) (fun c_7 => ?_)
    · try simp only [if_pos c_7] at h0
      try simp only [if_pos c_7] at h1
      subst h0
      subst h1
      exact ev_loc hE cw_le0
    · have hb := hF_7 c_7
      try simp only [if_neg c_7] at h0
      try simp only [if_neg c_7] at h1
      refine ev_aload_n (pc := 10) dJ7_fill_53178_10 rfl ?_
      refine ev_iload_n (pc := 11) dJ7_fill_53178_11 rfl ?_
      refine ev_iload_n (pc := 12) dJ7_fill_53178_12 rfl ?_
      refine tw_iast (pc := 13) (A2 := (qA13_J7_fill_53178_55 n I A J t x1 A5 v5_2)) dJ7_fill_53178_13 (by decide) rfl hb.1 rfl ?_
      replace hb := hb.2
      refine ev_iinc_2 (pc := 14) (v := (q14_J7_fill_53178_55 n I A J t x1 A5 v5_2)) dJ7_fill_53178_14 (by decide) rfl rfl ?_
      refine ev_goto (pc := 17) (tgt := 5) dJ7_fill_53178_17 (by decide) ?_
      exact ev_loc (ih (qA13_J7_fill_53178_55 n I A J t x1 A5 v5_2) (q14_J7_fill_53178_55 n I A J t x1 A5 v5_2) w0 w1 hb h0 h1 hE) cw_le0

set_option maxRecDepth 100000 in
set_option maxHeartbeats 4000000 in
theorem cv_J7_fill_53178_55 (g : cw_G) (n : Nat) (I : Nat → Nat → Int32) (A : Nat → Nat → Int32) (J : Nat → Nat → Int64) (t : Bool × Bool) (x1 : Int32) (hb : pb_J7_fill_53178_55 n I A J t x1) : Cd g mJ7_fill_53178 [(.ref (cw_z g + 55)), (.int x1)] (hp g I A J t) none (hp g I (pA_J7_fill_53178_55 n I A J t x1) J t) := by
  unfold pb_J7_fill_53178_55 at hb
  unfold pA_J7_fill_53178_55
  refine Cd.of rfl (Nat.le_of_ble_eq_true rfl) (ev_gen (fun Q hQ => ?_))
  refine ev_iconst (pc := 0) (v := 0) dJ7_fill_53178_0 (by decide) ?_
  refine ev_istore_2 (pc := 1) dJ7_fill_53178_1 (by decide) rfl ?_
  refine ev_aload_n (pc := 2) dJ7_fill_53178_2 rfl ?_
  refine ev_alen (pc := 3) dJ7_fill_53178_3 (show 55 < 120 by decide) rfl (by decide) ?_
  refine ev_is (y := (q4_J7_fill_53178_55 n I A J t x1)) rfl ?_
  refine ev_istore_3 (pc := 4) dJ7_fill_53178_4 (by decide) rfl ?_
  refine lt_J7_fill_53178_55_5 g n I A J t x1 n A 0 (qAw5_J7_fill_53178_55 n I A J t x1) (q2w5_J7_fill_53178_55 n I A J t x1) hb rfl rfl ?_
  exact ev_vret (pc := 20) dJ7_fill_53178_20 rfl (by decide) (by decide) (hQ _ _ ⟨rfl, rfl⟩)

def q4_J7_fill_53178_56 (n : Nat) (I : Nat → Nat → Int32) (A : Nat → Nat → Int32) (J : Nat → Nat → Int64) (t : Bool × Bool) (x1 : Int32) : Int32 := (nI 240)
def qA13_J7_fill_53178_56 (n : Nat) (I : Nat → Nat → Int32) (A : Nat → Nat → Int32) (J : Nat → Nat → Int64) (t : Bool × Bool) (x1 : Int32) (A5 : Nat → Nat → Int32) (v5_2 : Int32) : Nat → Nat → Int32 := cw_u A5 56 (v5_2).toNatClampNeg x1
def q14_J7_fill_53178_56 (n : Nat) (I : Nat → Nat → Int32) (A : Nat → Nat → Int32) (J : Nat → Nat → Int64) (t : Bool × Bool) (x1 : Int32) (A5 : Nat → Nat → Int32) (v5_2 : Int32) : Int32 := v5_2 + 1
def lp_J7_fill_53178_56_5 (n : Nat) (I : Nat → Nat → Int32) (A : Nat → Nat → Int32) (J : Nat → Nat → Int64) (t : Bool × Bool) (x1 : Int32) : Nat → (Nat → Nat → Int32) → (Int32) → (Nat → Nat → Int32) × Int32
  | 0, A5, v5_2 => (A5, v5_2)
  | f + 1, A5, v5_2 => if (q4_J7_fill_53178_56 n I A J t x1) ≤ v5_2 then (A5, v5_2) else lp_J7_fill_53178_56_5 n I A J t x1 f (qA13_J7_fill_53178_56 n I A J t x1 A5 v5_2) (q14_J7_fill_53178_56 n I A J t x1 A5 v5_2)
def lb_J7_fill_53178_56_5 (n : Nat) (I : Nat → Nat → Int32) (A : Nat → Nat → Int32) (J : Nat → Nat → Int64) (t : Bool × Bool) (x1 : Int32) : Nat → (Nat → Nat → Int32) → (Int32) → Prop
  | 0, _, _ => False
  | f + 1, A5, v5_2 => (¬ (q4_J7_fill_53178_56 n I A J t x1) ≤ v5_2 → vp_in v5_2 240 ∧ lb_J7_fill_53178_56_5 n I A J t x1 f (qA13_J7_fill_53178_56 n I A J t x1 A5 v5_2) (q14_J7_fill_53178_56 n I A J t x1 A5 v5_2))
def qAw5_J7_fill_53178_56 (n : Nat) (I : Nat → Nat → Int32) (A : Nat → Nat → Int32) (J : Nat → Nat → Int64) (t : Bool × Bool) (x1 : Int32) : Nat → Nat → Int32 := (lp_J7_fill_53178_56_5 n I A J t x1 n A 0).1
def q2w5_J7_fill_53178_56 (n : Nat) (I : Nat → Nat → Int32) (A : Nat → Nat → Int32) (J : Nat → Nat → Int64) (t : Bool × Bool) (x1 : Int32) : Int32 := (lp_J7_fill_53178_56_5 n I A J t x1 n A 0).2
def pb_J7_fill_53178_56 (n : Nat) (I : Nat → Nat → Int32) (A : Nat → Nat → Int32) (J : Nat → Nat → Int64) (t : Bool × Bool) (x1 : Int32) : Prop := lb_J7_fill_53178_56_5 n I A J t x1 n A 0
def pA_J7_fill_53178_56 (n : Nat) (I : Nat → Nat → Int32) (A : Nat → Nat → Int32) (J : Nat → Nat → Int64) (t : Bool × Bool) (x1 : Int32) : Nat → Nat → Int32 := (qAw5_J7_fill_53178_56 n I A J t x1)
set_option maxRecDepth 100000 in
set_option maxHeartbeats 4000000 in
theorem lt_J7_fill_53178_56_5 (g : cw_G) (n : Nat) (I : Nat → Nat → Int32) (A : Nat → Nat → Int32) (J : Nat → Nat → Int64) (t : Bool × Bool) (x1 : Int32) {Q : Option Value → cw_H → Prop} : ∀ (f : Nat) (A5 : Nat → Nat → Int32) (v5_2 : Int32) (w0 : Nat → Nat → Int32) (w1 : Int32), lb_J7_fill_53178_56_5 n I A J t x1 f A5 v5_2 → (lp_J7_fill_53178_56_5 n I A J t x1 f A5 v5_2).1 = w0 → (lp_J7_fill_53178_56_5 n I A J t x1 f A5 v5_2).2 = w1 → Ev g mJ7_fill_53178 0 0 20 [some (.ref (cw_z g + 56)), some (.int x1), some (.int w1), some (.int (q4_J7_fill_53178_56 n I A J t x1))] [] (hp g I w0 J t) Q → Ev g mJ7_fill_53178 0 0 5 [some (.ref (cw_z g + 56)), some (.int x1), some (.int v5_2), some (.int (q4_J7_fill_53178_56 n I A J t x1))] [] (hp g I A5 J t) Q := by
  intro f
  induction f with
  | zero =>
    intro A5 v5_2 w0 w1 hb
    exact hb.elim
  | succ f ih =>
    intro A5 v5_2 w0 w1 hb h0 h1 hE
    rw [lb_J7_fill_53178_56_5] at hb
    rw [lp_J7_fill_53178_56_5] at h0 h1
    refine ev_iload_n (pc := 5) dJ7_fill_53178_5 rfl ?_
    refine ev_iload_n (pc := 6) dJ7_fill_53178_6 rfl ?_
    have hF_7 := hb
    refine ev_icmp_ge (pc := 7) (tgt := 20) dJ7_fill_53178_7 (by decide) (fun c_7 => ?_) (fun c_7 => ?_)
    · try simp only [if_pos c_7] at h0
      try simp only [if_pos c_7] at h1
      subst h0
      subst h1
      exact ev_loc hE cw_le0
    · have hb := hF_7 c_7
      try simp only [if_neg c_7] at h0
      try simp only [if_neg c_7] at h1
      refine ev_aload_n (pc := 10) dJ7_fill_53178_10 rfl ?_
      refine ev_iload_n (pc := 11) dJ7_fill_53178_11 rfl ?_
      refine ev_iload_n (pc := 12) dJ7_fill_53178_12 rfl ?_
      refine tw_iast (pc := 13) (A2 := (qA13_J7_fill_53178_56 n I A J t x1 A5 v5_2)) dJ7_fill_53178_13 (by decide) rfl hb.1 rfl ?_
      replace hb := hb.2
      refine ev_iinc_2 (pc := 14) (v := (q14_J7_fill_53178_56 n I A J t x1 A5 v5_2)) dJ7_fill_53178_14 (by decide) rfl rfl ?_
      refine ev_goto (pc := 17) (tgt := 5) dJ7_fill_53178_17 (by decide) ?_
      exact ev_loc (ih (qA13_J7_fill_53178_56 n I A J t x1 A5 v5_2) (q14_J7_fill_53178_56 n I A J t x1 A5 v5_2) w0 w1 hb h0 h1 hE) cw_le0

set_option maxRecDepth 100000 in
set_option maxHeartbeats 4000000 in
theorem cv_J7_fill_53178_56 (g : cw_G) (n : Nat) (I : Nat → Nat → Int32) (A : Nat → Nat → Int32) (J : Nat → Nat → Int64) (t : Bool × Bool) (x1 : Int32) (hb : pb_J7_fill_53178_56 n I A J t x1) : Cd g mJ7_fill_53178 [(.ref (cw_z g + 56)), (.int x1)] (hp g I A J t) none (hp g I (pA_J7_fill_53178_56 n I A J t x1) J t) := by
  unfold pb_J7_fill_53178_56 at hb
  unfold pA_J7_fill_53178_56
  refine Cd.of rfl (Nat.le_of_ble_eq_true rfl) (ev_gen (fun Q hQ => ?_))
  refine ev_iconst (pc := 0) (v := 0) dJ7_fill_53178_0 (by decide) ?_
  refine ev_istore_2 (pc := 1) dJ7_fill_53178_1 (by decide) rfl ?_
  refine ev_aload_n (pc := 2) dJ7_fill_53178_2 rfl ?_
  refine ev_alen (pc := 3) dJ7_fill_53178_3 (show 56 < 120 by decide) rfl (by decide) ?_
  refine ev_is (y := (q4_J7_fill_53178_56 n I A J t x1)) rfl ?_
  refine ev_istore_3 (pc := 4) dJ7_fill_53178_4 (by decide) rfl ?_
  refine lt_J7_fill_53178_56_5 g n I A J t x1 n A 0 (qAw5_J7_fill_53178_56 n I A J t x1) (q2w5_J7_fill_53178_56 n I A J t x1) hb rfl rfl ?_
  exact ev_vret (pc := 20) dJ7_fill_53178_20 rfl (by decide) (by decide) (hQ _ _ ⟨rfl, rfl⟩)

def q4_J7_fill_53178_57 (n : Nat) (I : Nat → Nat → Int32) (A : Nat → Nat → Int32) (J : Nat → Nat → Int64) (t : Bool × Bool) (x1 : Int32) : Int32 := (nI 240)
def qA13_J7_fill_53178_57 (n : Nat) (I : Nat → Nat → Int32) (A : Nat → Nat → Int32) (J : Nat → Nat → Int64) (t : Bool × Bool) (x1 : Int32) (A5 : Nat → Nat → Int32) (v5_2 : Int32) : Nat → Nat → Int32 := cw_u A5 57 (v5_2).toNatClampNeg x1
def q14_J7_fill_53178_57 (n : Nat) (I : Nat → Nat → Int32) (A : Nat → Nat → Int32) (J : Nat → Nat → Int64) (t : Bool × Bool) (x1 : Int32) (A5 : Nat → Nat → Int32) (v5_2 : Int32) : Int32 := v5_2 + 1
def lp_J7_fill_53178_57_5 (n : Nat) (I : Nat → Nat → Int32) (A : Nat → Nat → Int32) (J : Nat → Nat → Int64) (t : Bool × Bool) (x1 : Int32) : Nat → (Nat → Nat → Int32) → (Int32) → (Nat → Nat → Int32) × Int32
  | 0, A5, v5_2 => (A5, v5_2)
  | f + 1, A5, v5_2 => if (q4_J7_fill_53178_57 n I A J t x1) ≤ v5_2 then (A5, v5_2) else lp_J7_fill_53178_57_5 n I A J t x1 f (qA13_J7_fill_53178_57 n I A J t x1 A5 v5_2) (q14_J7_fill_53178_57 n I A J t x1 A5 v5_2)
def lb_J7_fill_53178_57_5 (n : Nat) (I : Nat → Nat → Int32) (A : Nat → Nat → Int32) (J : Nat → Nat → Int64) (t : Bool × Bool) (x1 : Int32) : Nat → (Nat → Nat → Int32) → (Int32) → Prop
  | 0, _, _ => False
  | f + 1, A5, v5_2 => (¬ (q4_J7_fill_53178_57 n I A J t x1) ≤ v5_2 → vp_in v5_2 240 ∧ lb_J7_fill_53178_57_5 n I A J t x1 f (qA13_J7_fill_53178_57 n I A J t x1 A5 v5_2) (q14_J7_fill_53178_57 n I A J t x1 A5 v5_2))
def qAw5_J7_fill_53178_57 (n : Nat) (I : Nat → Nat → Int32) (A : Nat → Nat → Int32) (J : Nat → Nat → Int64) (t : Bool × Bool) (x1 : Int32) : Nat → Nat → Int32 := (lp_J7_fill_53178_57_5 n I A J t x1 n A 0).1
def q2w5_J7_fill_53178_57 (n : Nat) (I : Nat → Nat → Int32) (A : Nat → Nat → Int32) (J : Nat → Nat → Int64) (t : Bool × Bool) (x1 : Int32) : Int32 := (lp_J7_fill_53178_57_5 n I A J t x1 n A 0).2
def pb_J7_fill_53178_57 (n : Nat) (I : Nat → Nat → Int32) (A : Nat → Nat → Int32) (J : Nat → Nat → Int64) (t : Bool × Bool) (x1 : Int32) : Prop := lb_J7_fill_53178_57_5 n I A J t x1 n A 0
def pA_J7_fill_53178_57 (n : Nat) (I : Nat → Nat → Int32) (A : Nat → Nat → Int32) (J : Nat → Nat → Int64) (t : Bool × Bool) (x1 : Int32) : Nat → Nat → Int32 := (qAw5_J7_fill_53178_57 n I A J t x1)
set_option maxRecDepth 100000 in
set_option maxHeartbeats 4000000 in
theorem lt_J7_fill_53178_57_5 (g : cw_G) (n : Nat) (I : Nat → Nat → Int32) (A : Nat → Nat → Int32) (J : Nat → Nat → Int64) (t : Bool × Bool) (x1 : Int32) {Q : Option Value → cw_H → Prop} : ∀ (f : Nat) (A5 : Nat → Nat → Int32) (v5_2 : Int32) (w0 : Nat → Nat → Int32) (w1 : Int32), lb_J7_fill_53178_57_5 n I A J t x1 f A5 v5_2 → (lp_J7_fill_53178_57_5 n I A J t x1 f A5 v5_2).1 = w0 → (lp_J7_fill_53178_57_5 n I A J t x1 f A5 v5_2).2 = w1 → Ev g mJ7_fill_53178 0 0 20 [some (.ref (cw_z g + 57)), some (.int x1), some (.int w1), some (.int (q4_J7_fill_53178_57 n I A J t x1))] [] (hp g I w0 J t) Q → Ev g mJ7_fill_53178 0 0 5 [some (.ref (cw_z g + 57)), some (.int x1), some (.int v5_2), some (.int (q4_J7_fill_53178_57 n I A J t x1))] [] (hp g I A5 J t) Q := by
  intro f
  induction f with
  | zero =>
    intro A5 v5_2 w0 w1 hb
    exact hb.elim
  | succ f ih =>
    intro A5 v5_2 w0 w1 hb h0 h1 hE
    rw [lb_J7_fill_53178_57_5] at hb
    rw [lp_J7_fill_53178_57_5] at h0 h1
    refine ev_iload_n (pc := 5) dJ7_fill_53178_5 rfl ?_
    refine ev_iload_n (pc := 6) dJ7_fill_53178_6 rfl ?_
    have hF_7 := hb
    refine ev_icmp_ge (pc := 7) (tgt := 20) dJ7_fill_53178_7 (by decide) (fun c_7 => ?_) (fun c_7 => ?_)
    · try simp only [if_pos c_7] at h0
      try simp only [if_pos c_7] at h1
      subst h0
      subst h1
      exact ev_loc hE cw_le0
    · have hb := hF_7 c_7
      try simp only [if_neg c_7] at h0
      try simp only [if_neg c_7] at h1
      refine ev_aload_n (pc := 10) dJ7_fill_53178_10 rfl ?_
      refine ev_iload_n (pc := 11) dJ7_fill_53178_11 rfl ?_
      refine ev_iload_n (pc := 12) dJ7_fill_53178_12 rfl ?_
      refine tw_iast (pc := 13) (A2 := (qA13_J7_fill_53178_57 n I A J t x1 A5 v5_2)) dJ7_fill_53178_13 (by decide) rfl hb.1 rfl ?_
      replace hb := hb.2
      refine ev_iinc_2 (pc := 14) (v := (q14_J7_fill_53178_57 n I A J t x1 A5 v5_2)) dJ7_fill_53178_14 (by decide) rfl rfl ?_
      refine ev_goto (pc := 17) (tgt := 5) dJ7_fill_53178_17 (by decide) ?_
      exact ev_loc (ih (qA13_J7_fill_53178_57 n I A J t x1 A5 v5_2) (q14_J7_fill_53178_57 n I A J t x1 A5 v5_2) w0 w1 hb h0 h1 hE) cw_le0

set_option maxRecDepth 100000 in
set_option maxHeartbeats 4000000 in
theorem cv_J7_fill_53178_57 (g : cw_G) (n : Nat) (I : Nat → Nat → Int32) (A : Nat → Nat → Int32) (J : Nat → Nat → Int64) (t : Bool × Bool) (x1 : Int32) (hb : pb_J7_fill_53178_57 n I A J t x1) : Cd g mJ7_fill_53178 [(.ref (cw_z g + 57)), (.int x1)] (hp g I A J t) none (hp g I (pA_J7_fill_53178_57 n I A J t x1) J t) := by
  unfold pb_J7_fill_53178_57 at hb
  unfold pA_J7_fill_53178_57
  refine Cd.of rfl (Nat.le_of_ble_eq_true rfl) (ev_gen (fun Q hQ => ?_))
  refine ev_iconst (pc := 0) (v := 0) dJ7_fill_53178_0 (by decide) ?_
  refine ev_istore_2 (pc := 1) dJ7_fill_53178_1 (by decide) rfl ?_
  refine ev_aload_n (pc := 2) dJ7_fill_53178_2 rfl ?_
  refine ev_alen (pc := 3) dJ7_fill_53178_3 (show 57 < 120 by decide) rfl (by decide) ?_
  refine ev_is (y := (q4_J7_fill_53178_57 n I A J t x1)) rfl ?_
  refine ev_istore_3 (pc := 4) dJ7_fill_53178_4 (by decide) rfl ?_
  refine lt_J7_fill_53178_57_5 g n I A J t x1 n A 0 (qAw5_J7_fill_53178_57 n I A J t x1) (q2w5_J7_fill_53178_57 n I A J t x1) hb rfl rfl ?_
  exact ev_vret (pc := 20) dJ7_fill_53178_20 rfl (by decide) (by decide) (hQ _ _ ⟨rfl, rfl⟩)

def q4_J7_fill_53178_58 (n : Nat) (I : Nat → Nat → Int32) (A : Nat → Nat → Int32) (J : Nat → Nat → Int64) (t : Bool × Bool) (x1 : Int32) : Int32 := (nI 144)
def qA13_J7_fill_53178_58 (n : Nat) (I : Nat → Nat → Int32) (A : Nat → Nat → Int32) (J : Nat → Nat → Int64) (t : Bool × Bool) (x1 : Int32) (A5 : Nat → Nat → Int32) (v5_2 : Int32) : Nat → Nat → Int32 := cw_u A5 58 (v5_2).toNatClampNeg x1
def q14_J7_fill_53178_58 (n : Nat) (I : Nat → Nat → Int32) (A : Nat → Nat → Int32) (J : Nat → Nat → Int64) (t : Bool × Bool) (x1 : Int32) (A5 : Nat → Nat → Int32) (v5_2 : Int32) : Int32 := v5_2 + 1
def lp_J7_fill_53178_58_5 (n : Nat) (I : Nat → Nat → Int32) (A : Nat → Nat → Int32) (J : Nat → Nat → Int64) (t : Bool × Bool) (x1 : Int32) : Nat → (Nat → Nat → Int32) → (Int32) → (Nat → Nat → Int32) × Int32
  | 0, A5, v5_2 => (A5, v5_2)
  | f + 1, A5, v5_2 => if (q4_J7_fill_53178_58 n I A J t x1) ≤ v5_2 then (A5, v5_2) else lp_J7_fill_53178_58_5 n I A J t x1 f (qA13_J7_fill_53178_58 n I A J t x1 A5 v5_2) (q14_J7_fill_53178_58 n I A J t x1 A5 v5_2)
def lb_J7_fill_53178_58_5 (n : Nat) (I : Nat → Nat → Int32) (A : Nat → Nat → Int32) (J : Nat → Nat → Int64) (t : Bool × Bool) (x1 : Int32) : Nat → (Nat → Nat → Int32) → (Int32) → Prop
  | 0, _, _ => False
  | f + 1, A5, v5_2 => (¬ (q4_J7_fill_53178_58 n I A J t x1) ≤ v5_2 → vp_in v5_2 144 ∧ lb_J7_fill_53178_58_5 n I A J t x1 f (qA13_J7_fill_53178_58 n I A J t x1 A5 v5_2) (q14_J7_fill_53178_58 n I A J t x1 A5 v5_2))
def qAw5_J7_fill_53178_58 (n : Nat) (I : Nat → Nat → Int32) (A : Nat → Nat → Int32) (J : Nat → Nat → Int64) (t : Bool × Bool) (x1 : Int32) : Nat → Nat → Int32 := (lp_J7_fill_53178_58_5 n I A J t x1 n A 0).1
def q2w5_J7_fill_53178_58 (n : Nat) (I : Nat → Nat → Int32) (A : Nat → Nat → Int32) (J : Nat → Nat → Int64) (t : Bool × Bool) (x1 : Int32) : Int32 := (lp_J7_fill_53178_58_5 n I A J t x1 n A 0).2
def pb_J7_fill_53178_58 (n : Nat) (I : Nat → Nat → Int32) (A : Nat → Nat → Int32) (J : Nat → Nat → Int64) (t : Bool × Bool) (x1 : Int32) : Prop := lb_J7_fill_53178_58_5 n I A J t x1 n A 0
def pA_J7_fill_53178_58 (n : Nat) (I : Nat → Nat → Int32) (A : Nat → Nat → Int32) (J : Nat → Nat → Int64) (t : Bool × Bool) (x1 : Int32) : Nat → Nat → Int32 := (qAw5_J7_fill_53178_58 n I A J t x1)
set_option maxRecDepth 100000 in
set_option maxHeartbeats 4000000 in
theorem lt_J7_fill_53178_58_5 (g : cw_G) (n : Nat) (I : Nat → Nat → Int32) (A : Nat → Nat → Int32) (J : Nat → Nat → Int64) (t : Bool × Bool) (x1 : Int32) {Q : Option Value → cw_H → Prop} : ∀ (f : Nat) (A5 : Nat → Nat → Int32) (v5_2 : Int32) (w0 : Nat → Nat → Int32) (w1 : Int32), lb_J7_fill_53178_58_5 n I A J t x1 f A5 v5_2 → (lp_J7_fill_53178_58_5 n I A J t x1 f A5 v5_2).1 = w0 → (lp_J7_fill_53178_58_5 n I A J t x1 f A5 v5_2).2 = w1 → Ev g mJ7_fill_53178 0 0 20 [some (.ref (cw_z g + 58)), some (.int x1), some (.int w1), some (.int (q4_J7_fill_53178_58 n I A J t x1))] [] (hp g I w0 J t) Q → Ev g mJ7_fill_53178 0 0 5 [some (.ref (cw_z g + 58)), some (.int x1), some (.int v5_2), some (.int (q4_J7_fill_53178_58 n I A J t x1))] [] (hp g I A5 J t) Q := by
  intro f
  induction f with
  | zero =>
    intro A5 v5_2 w0 w1 hb
    exact hb.elim
  | succ f ih =>
    intro A5 v5_2 w0 w1 hb h0 h1 hE
    rw [lb_J7_fill_53178_58_5] at hb
    rw [lp_J7_fill_53178_58_5] at h0 h1
    refine ev_iload_n (pc := 5) dJ7_fill_53178_5 rfl ?_
    refine ev_iload_n (pc := 6) dJ7_fill_53178_6 rfl ?_
    have hF_7 := hb
    refine ev_icmp_ge (pc := 7) (tgt := 20) dJ7_fill_53178_7 (by decide) (fun c_7 => ?_) (fun c_7 => ?_)
    · try simp only [if_pos c_7] at h0
      try simp only [if_pos c_7] at h1
      subst h0
      subst h1
      exact ev_loc hE cw_le0
    · have hb := hF_7 c_7
      try simp only [if_neg c_7] at h0
      try simp only [if_neg c_7] at h1
      refine ev_aload_n (pc := 10) dJ7_fill_53178_10 rfl ?_
      refine ev_iload_n (pc := 11) dJ7_fill_53178_11 rfl ?_
      refine ev_iload_n (pc := 12) dJ7_fill_53178_12 rfl ?_
      refine tw_iast (pc := 13) (A2 := (qA13_J7_fill_53178_58 n I A J t x1 A5 v5_2)) dJ7_fill_53178_13 (by decide) rfl hb.1 rfl ?_
      replace hb := hb.2
      refine ev_iinc_2 (pc := 14) (v := (q14_J7_fill_53178_58 n I A J t x1 A5 v5_2)) dJ7_fill_53178_14 (by decide) rfl rfl ?_
      refine ev_goto (pc := 17) (tgt := 5) dJ7_fill_53178_17 (by decide) ?_
      exact ev_loc (ih (qA13_J7_fill_53178_58 n I A J t x1 A5 v5_2) (q14_J7_fill_53178_58 n I A J t x1 A5 v5_2) w0 w1 hb h0 h1 hE) cw_le0

set_option maxRecDepth 100000 in
set_option maxHeartbeats 4000000 in
theorem cv_J7_fill_53178_58 (g : cw_G) (n : Nat) (I : Nat → Nat → Int32) (A : Nat → Nat → Int32) (J : Nat → Nat → Int64) (t : Bool × Bool) (x1 : Int32) (hb : pb_J7_fill_53178_58 n I A J t x1) : Cd g mJ7_fill_53178 [(.ref (cw_z g + 58)), (.int x1)] (hp g I A J t) none (hp g I (pA_J7_fill_53178_58 n I A J t x1) J t) := by
  unfold pb_J7_fill_53178_58 at hb
  unfold pA_J7_fill_53178_58
  refine Cd.of rfl (Nat.le_of_ble_eq_true rfl) (ev_gen (fun Q hQ => ?_))
  refine ev_iconst (pc := 0) (v := 0) dJ7_fill_53178_0 (by decide) ?_
  refine ev_istore_2 (pc := 1) dJ7_fill_53178_1 (by decide) rfl ?_
  refine ev_aload_n (pc := 2) dJ7_fill_53178_2 rfl ?_
  refine ev_alen (pc := 3) dJ7_fill_53178_3 (show 58 < 120 by decide) rfl (by decide) ?_
  refine ev_is (y := (q4_J7_fill_53178_58 n I A J t x1)) rfl ?_
  refine ev_istore_3 (pc := 4) dJ7_fill_53178_4 (by decide) rfl ?_
  refine lt_J7_fill_53178_58_5 g n I A J t x1 n A 0 (qAw5_J7_fill_53178_58 n I A J t x1) (q2w5_J7_fill_53178_58 n I A J t x1) hb rfl rfl ?_
  exact ev_vret (pc := 20) dJ7_fill_53178_20 rfl (by decide) (by decide) (hQ _ _ ⟨rfl, rfl⟩)

def q4_J7_fill_53178_59 (n : Nat) (I : Nat → Nat → Int32) (A : Nat → Nat → Int32) (J : Nat → Nat → Int64) (t : Bool × Bool) (x1 : Int32) : Int32 := (nI 24)
def qA13_J7_fill_53178_59 (n : Nat) (I : Nat → Nat → Int32) (A : Nat → Nat → Int32) (J : Nat → Nat → Int64) (t : Bool × Bool) (x1 : Int32) (A5 : Nat → Nat → Int32) (v5_2 : Int32) : Nat → Nat → Int32 := cw_u A5 59 (v5_2).toNatClampNeg x1
def q14_J7_fill_53178_59 (n : Nat) (I : Nat → Nat → Int32) (A : Nat → Nat → Int32) (J : Nat → Nat → Int64) (t : Bool × Bool) (x1 : Int32) (A5 : Nat → Nat → Int32) (v5_2 : Int32) : Int32 := v5_2 + 1
def lp_J7_fill_53178_59_5 (n : Nat) (I : Nat → Nat → Int32) (A : Nat → Nat → Int32) (J : Nat → Nat → Int64) (t : Bool × Bool) (x1 : Int32) : Nat → (Nat → Nat → Int32) → (Int32) → (Nat → Nat → Int32) × Int32
  | 0, A5, v5_2 => (A5, v5_2)
  | f + 1, A5, v5_2 => if (q4_J7_fill_53178_59 n I A J t x1) ≤ v5_2 then (A5, v5_2) else lp_J7_fill_53178_59_5 n I A J t x1 f (qA13_J7_fill_53178_59 n I A J t x1 A5 v5_2) (q14_J7_fill_53178_59 n I A J t x1 A5 v5_2)
def lb_J7_fill_53178_59_5 (n : Nat) (I : Nat → Nat → Int32) (A : Nat → Nat → Int32) (J : Nat → Nat → Int64) (t : Bool × Bool) (x1 : Int32) : Nat → (Nat → Nat → Int32) → (Int32) → Prop
  | 0, _, _ => False
  | f + 1, A5, v5_2 => (¬ (q4_J7_fill_53178_59 n I A J t x1) ≤ v5_2 → vp_in v5_2 24 ∧ lb_J7_fill_53178_59_5 n I A J t x1 f (qA13_J7_fill_53178_59 n I A J t x1 A5 v5_2) (q14_J7_fill_53178_59 n I A J t x1 A5 v5_2))
def qAw5_J7_fill_53178_59 (n : Nat) (I : Nat → Nat → Int32) (A : Nat → Nat → Int32) (J : Nat → Nat → Int64) (t : Bool × Bool) (x1 : Int32) : Nat → Nat → Int32 := (lp_J7_fill_53178_59_5 n I A J t x1 n A 0).1
def q2w5_J7_fill_53178_59 (n : Nat) (I : Nat → Nat → Int32) (A : Nat → Nat → Int32) (J : Nat → Nat → Int64) (t : Bool × Bool) (x1 : Int32) : Int32 := (lp_J7_fill_53178_59_5 n I A J t x1 n A 0).2
def pb_J7_fill_53178_59 (n : Nat) (I : Nat → Nat → Int32) (A : Nat → Nat → Int32) (J : Nat → Nat → Int64) (t : Bool × Bool) (x1 : Int32) : Prop := lb_J7_fill_53178_59_5 n I A J t x1 n A 0
def pA_J7_fill_53178_59 (n : Nat) (I : Nat → Nat → Int32) (A : Nat → Nat → Int32) (J : Nat → Nat → Int64) (t : Bool × Bool) (x1 : Int32) : Nat → Nat → Int32 := (qAw5_J7_fill_53178_59 n I A J t x1)
set_option maxRecDepth 100000 in
set_option maxHeartbeats 4000000 in
theorem lt_J7_fill_53178_59_5 (g : cw_G) (n : Nat) (I : Nat → Nat → Int32) (A : Nat → Nat → Int32) (J : Nat → Nat → Int64) (t : Bool × Bool) (x1 : Int32) {Q : Option Value → cw_H → Prop} : ∀ (f : Nat) (A5 : Nat → Nat → Int32) (v5_2 : Int32) (w0 : Nat → Nat → Int32) (w1 : Int32), lb_J7_fill_53178_59_5 n I A J t x1 f A5 v5_2 → (lp_J7_fill_53178_59_5 n I A J t x1 f A5 v5_2).1 = w0 → (lp_J7_fill_53178_59_5 n I A J t x1 f A5 v5_2).2 = w1 → Ev g mJ7_fill_53178 0 0 20 [some (.ref (cw_z g + 59)), some (.int x1), some (.int w1), some (.int (q4_J7_fill_53178_59 n I A J t x1))] [] (hp g I w0 J t) Q → Ev g mJ7_fill_53178 0 0 5 [some (.ref (cw_z g + 59)), some (.int x1), some (.int v5_2), some (.int (q4_J7_fill_53178_59 n I A J t x1))] [] (hp g I A5 J t) Q := by
  intro f
  induction f with
  | zero =>
    intro A5 v5_2 w0 w1 hb
    exact hb.elim
  | succ f ih =>
    intro A5 v5_2 w0 w1 hb h0 h1 hE
    rw [lb_J7_fill_53178_59_5] at hb
    rw [lp_J7_fill_53178_59_5] at h0 h1
    refine ev_iload_n (pc := 5) dJ7_fill_53178_5 rfl ?_
    refine ev_iload_n (pc := 6) dJ7_fill_53178_6 rfl ?_
    have hF_7 := hb
    refine ev_icmp_ge (pc := 7) (tgt := 20) dJ7_fill_53178_7 (by decide) (fun c_7 => ?_) (fun c_7 => ?_)
    · try simp only [if_pos c_7] at h0
      try simp only [if_pos c_7] at h1
      subst h0
      subst h1
      exact ev_loc hE cw_le0
    · have hb := hF_7 c_7
      try simp only [if_neg c_7] at h0
      try simp only [if_neg c_7] at h1
      refine ev_aload_n (pc := 10) dJ7_fill_53178_10 rfl ?_
      refine ev_iload_n (pc := 11) dJ7_fill_53178_11 rfl ?_
      refine ev_iload_n (pc := 12) dJ7_fill_53178_12 rfl ?_
      refine tw_iast (pc := 13) (A2 := (qA13_J7_fill_53178_59 n I A J t x1 A5 v5_2)) dJ7_fill_53178_13 (by decide) rfl hb.1 rfl ?_
      replace hb := hb.2
      refine ev_iinc_2 (pc := 14) (v := (q14_J7_fill_53178_59 n I A J t x1 A5 v5_2)) dJ7_fill_53178_14 (by decide) rfl rfl ?_
      refine ev_goto (pc := 17) (tgt := 5) dJ7_fill_53178_17 (by decide) ?_
      exact ev_loc (ih (qA13_J7_fill_53178_59 n I A J t x1 A5 v5_2) (q14_J7_fill_53178_59 n I A J t x1 A5 v5_2) w0 w1 hb h0 h1 hE) cw_le0

set_option maxRecDepth 100000 in
set_option maxHeartbeats 4000000 in
theorem cv_J7_fill_53178_59 (g : cw_G) (n : Nat) (I : Nat → Nat → Int32) (A : Nat → Nat → Int32) (J : Nat → Nat → Int64) (t : Bool × Bool) (x1 : Int32) (hb : pb_J7_fill_53178_59 n I A J t x1) : Cd g mJ7_fill_53178 [(.ref (cw_z g + 59)), (.int x1)] (hp g I A J t) none (hp g I (pA_J7_fill_53178_59 n I A J t x1) J t) := by
  unfold pb_J7_fill_53178_59 at hb
  unfold pA_J7_fill_53178_59
  refine Cd.of rfl (Nat.le_of_ble_eq_true rfl) (ev_gen (fun Q hQ => ?_))
  refine ev_iconst (pc := 0) (v := 0) dJ7_fill_53178_0 (by decide) ?_
  refine ev_istore_2 (pc := 1) dJ7_fill_53178_1 (by decide) rfl ?_
  refine ev_aload_n (pc := 2) dJ7_fill_53178_2 rfl ?_
  refine ev_alen (pc := 3) dJ7_fill_53178_3 (show 59 < 120 by decide) rfl (by decide) ?_
  refine ev_is (y := (q4_J7_fill_53178_59 n I A J t x1)) rfl ?_
  refine ev_istore_3 (pc := 4) dJ7_fill_53178_4 (by decide) rfl ?_
  refine lt_J7_fill_53178_59_5 g n I A J t x1 n A 0 (qAw5_J7_fill_53178_59 n I A J t x1) (q2w5_J7_fill_53178_59 n I A J t x1) hb rfl rfl ?_
  exact ev_vret (pc := 20) dJ7_fill_53178_20 rfl (by decide) (by decide) (hQ _ _ ⟨rfl, rfl⟩)

def q4_J7_fill_53178_47 (n : Nat) (I : Nat → Nat → Int32) (A : Nat → Nat → Int32) (J : Nat → Nat → Int64) (t : Bool × Bool) (x1 : Int32) : Int32 := (nI 60)
def qA13_J7_fill_53178_47 (n : Nat) (I : Nat → Nat → Int32) (A : Nat → Nat → Int32) (J : Nat → Nat → Int64) (t : Bool × Bool) (x1 : Int32) (A5 : Nat → Nat → Int32) (v5_2 : Int32) : Nat → Nat → Int32 := cw_u A5 47 (v5_2).toNatClampNeg x1
def q14_J7_fill_53178_47 (n : Nat) (I : Nat → Nat → Int32) (A : Nat → Nat → Int32) (J : Nat → Nat → Int64) (t : Bool × Bool) (x1 : Int32) (A5 : Nat → Nat → Int32) (v5_2 : Int32) : Int32 := v5_2 + 1
def lp_J7_fill_53178_47_5 (n : Nat) (I : Nat → Nat → Int32) (A : Nat → Nat → Int32) (J : Nat → Nat → Int64) (t : Bool × Bool) (x1 : Int32) : Nat → (Nat → Nat → Int32) → (Int32) → (Nat → Nat → Int32) × Int32
  | 0, A5, v5_2 => (A5, v5_2)
  | f + 1, A5, v5_2 => if (q4_J7_fill_53178_47 n I A J t x1) ≤ v5_2 then (A5, v5_2) else lp_J7_fill_53178_47_5 n I A J t x1 f (qA13_J7_fill_53178_47 n I A J t x1 A5 v5_2) (q14_J7_fill_53178_47 n I A J t x1 A5 v5_2)
def lb_J7_fill_53178_47_5 (n : Nat) (I : Nat → Nat → Int32) (A : Nat → Nat → Int32) (J : Nat → Nat → Int64) (t : Bool × Bool) (x1 : Int32) : Nat → (Nat → Nat → Int32) → (Int32) → Prop
  | 0, _, _ => False
  | f + 1, A5, v5_2 => (¬ (q4_J7_fill_53178_47 n I A J t x1) ≤ v5_2 → vp_in v5_2 60 ∧ lb_J7_fill_53178_47_5 n I A J t x1 f (qA13_J7_fill_53178_47 n I A J t x1 A5 v5_2) (q14_J7_fill_53178_47 n I A J t x1 A5 v5_2))
def qAw5_J7_fill_53178_47 (n : Nat) (I : Nat → Nat → Int32) (A : Nat → Nat → Int32) (J : Nat → Nat → Int64) (t : Bool × Bool) (x1 : Int32) : Nat → Nat → Int32 := (lp_J7_fill_53178_47_5 n I A J t x1 n A 0).1
def q2w5_J7_fill_53178_47 (n : Nat) (I : Nat → Nat → Int32) (A : Nat → Nat → Int32) (J : Nat → Nat → Int64) (t : Bool × Bool) (x1 : Int32) : Int32 := (lp_J7_fill_53178_47_5 n I A J t x1 n A 0).2
def pb_J7_fill_53178_47 (n : Nat) (I : Nat → Nat → Int32) (A : Nat → Nat → Int32) (J : Nat → Nat → Int64) (t : Bool × Bool) (x1 : Int32) : Prop := lb_J7_fill_53178_47_5 n I A J t x1 n A 0
def pA_J7_fill_53178_47 (n : Nat) (I : Nat → Nat → Int32) (A : Nat → Nat → Int32) (J : Nat → Nat → Int64) (t : Bool × Bool) (x1 : Int32) : Nat → Nat → Int32 := (qAw5_J7_fill_53178_47 n I A J t x1)
set_option maxRecDepth 100000 in
set_option maxHeartbeats 4000000 in
theorem lt_J7_fill_53178_47_5 (g : cw_G) (n : Nat) (I : Nat → Nat → Int32) (A : Nat → Nat → Int32) (J : Nat → Nat → Int64) (t : Bool × Bool) (x1 : Int32) {Q : Option Value → cw_H → Prop} : ∀ (f : Nat) (A5 : Nat → Nat → Int32) (v5_2 : Int32) (w0 : Nat → Nat → Int32) (w1 : Int32), lb_J7_fill_53178_47_5 n I A J t x1 f A5 v5_2 → (lp_J7_fill_53178_47_5 n I A J t x1 f A5 v5_2).1 = w0 → (lp_J7_fill_53178_47_5 n I A J t x1 f A5 v5_2).2 = w1 → Ev g mJ7_fill_53178 0 0 20 [some (.ref (cw_z g + 47)), some (.int x1), some (.int w1), some (.int (q4_J7_fill_53178_47 n I A J t x1))] [] (hp g I w0 J t) Q → Ev g mJ7_fill_53178 0 0 5 [some (.ref (cw_z g + 47)), some (.int x1), some (.int v5_2), some (.int (q4_J7_fill_53178_47 n I A J t x1))] [] (hp g I A5 J t) Q := by
  intro f
  induction f with
  | zero =>
    intro A5 v5_2 w0 w1 hb
    exact hb.elim
  | succ f ih =>
    intro A5 v5_2 w0 w1 hb h0 h1 hE
    rw [lb_J7_fill_53178_47_5] at hb
    rw [lp_J7_fill_53178_47_5] at h0 h1
    refine ev_iload_n (pc := 5) dJ7_fill_53178_5 rfl ?_
    refine ev_iload_n (pc := 6) dJ7_fill_53178_6 rfl ?_
    have hF_7 := hb
    refine ev_icmp_ge (pc := 7) (tgt := 20) dJ7_fill_53178_7 (by decide) (fun c_7 => ?_) (fun c_7 => ?_)
    · try simp only [if_pos c_7] at h0
      try simp only [if_pos c_7] at h1
      subst h0
      subst h1
      exact ev_loc hE cw_le0
    · have hb := hF_7 c_7
      try simp only [if_neg c_7] at h0
      try simp only [if_neg c_7] at h1
      refine ev_aload_n (pc := 10) dJ7_fill_53178_10 rfl ?_
      refine ev_iload_n (pc := 11) dJ7_fill_53178_11 rfl ?_
      refine ev_iload_n (pc := 12) dJ7_fill_53178_12 rfl ?_
      refine tw_iast (pc := 13) (A2 := (qA13_J7_fill_53178_47 n I A J t x1 A5 v5_2)) dJ7_fill_53178_13 (by decide) rfl hb.1 rfl ?_
      replace hb := hb.2
      refine ev_iinc_2 (pc := 14) (v := (q14_J7_fill_53178_47 n I A J t x1 A5 v5_2)) dJ7_fill_53178_14 (by decide) rfl rfl ?_
      refine ev_goto (pc := 17) (tgt := 5) dJ7_fill_53178_17 (by decide) ?_
      exact ev_loc (ih (qA13_J7_fill_53178_47 n I A J t x1 A5 v5_2) (q14_J7_fill_53178_47 n I A J t x1 A5 v5_2) w0 w1 hb h0 h1 hE) cw_le0

set_option maxRecDepth 100000 in
set_option maxHeartbeats 4000000 in
theorem cv_J7_fill_53178_47 (g : cw_G) (n : Nat) (I : Nat → Nat → Int32) (A : Nat → Nat → Int32) (J : Nat → Nat → Int64) (t : Bool × Bool) (x1 : Int32) (hb : pb_J7_fill_53178_47 n I A J t x1) : Cd g mJ7_fill_53178 [(.ref (cw_z g + 47)), (.int x1)] (hp g I A J t) none (hp g I (pA_J7_fill_53178_47 n I A J t x1) J t) := by
  unfold pb_J7_fill_53178_47 at hb
  unfold pA_J7_fill_53178_47
  refine Cd.of rfl (Nat.le_of_ble_eq_true rfl) (ev_gen (fun Q hQ => ?_))
  refine ev_iconst (pc := 0) (v := 0) dJ7_fill_53178_0 (by decide) ?_
  refine ev_istore_2 (pc := 1) dJ7_fill_53178_1 (by decide) rfl ?_
  refine ev_aload_n (pc := 2) dJ7_fill_53178_2 rfl ?_
  refine ev_alen (pc := 3) dJ7_fill_53178_3 (show 47 < 120 by decide) rfl (by decide) ?_
  refine ev_is (y := (q4_J7_fill_53178_47 n I A J t x1)) rfl ?_
  refine ev_istore_3 (pc := 4) dJ7_fill_53178_4 (by decide) rfl ?_
  refine lt_J7_fill_53178_47_5 g n I A J t x1 n A 0 (qAw5_J7_fill_53178_47 n I A J t x1) (q2w5_J7_fill_53178_47 n I A J t x1) hb rfl rfl ?_
  exact ev_vret (pc := 20) dJ7_fill_53178_20 rfl (by decide) (by decide) (hQ _ _ ⟨rfl, rfl⟩)

def q4_J7_fill_53178_50 (n : Nat) (I : Nat → Nat → Int32) (A : Nat → Nat → Int32) (J : Nat → Nat → Int64) (t : Bool × Bool) (x1 : Int32) : Int32 := (nI 10)
def qA13_J7_fill_53178_50 (n : Nat) (I : Nat → Nat → Int32) (A : Nat → Nat → Int32) (J : Nat → Nat → Int64) (t : Bool × Bool) (x1 : Int32) (A5 : Nat → Nat → Int32) (v5_2 : Int32) : Nat → Nat → Int32 := cw_u A5 50 (v5_2).toNatClampNeg x1
def q14_J7_fill_53178_50 (n : Nat) (I : Nat → Nat → Int32) (A : Nat → Nat → Int32) (J : Nat → Nat → Int64) (t : Bool × Bool) (x1 : Int32) (A5 : Nat → Nat → Int32) (v5_2 : Int32) : Int32 := v5_2 + 1
def lp_J7_fill_53178_50_5 (n : Nat) (I : Nat → Nat → Int32) (A : Nat → Nat → Int32) (J : Nat → Nat → Int64) (t : Bool × Bool) (x1 : Int32) : Nat → (Nat → Nat → Int32) → (Int32) → (Nat → Nat → Int32) × Int32
  | 0, A5, v5_2 => (A5, v5_2)
  | f + 1, A5, v5_2 => if (q4_J7_fill_53178_50 n I A J t x1) ≤ v5_2 then (A5, v5_2) else lp_J7_fill_53178_50_5 n I A J t x1 f (qA13_J7_fill_53178_50 n I A J t x1 A5 v5_2) (q14_J7_fill_53178_50 n I A J t x1 A5 v5_2)
def lb_J7_fill_53178_50_5 (n : Nat) (I : Nat → Nat → Int32) (A : Nat → Nat → Int32) (J : Nat → Nat → Int64) (t : Bool × Bool) (x1 : Int32) : Nat → (Nat → Nat → Int32) → (Int32) → Prop
  | 0, _, _ => False
  | f + 1, A5, v5_2 => (¬ (q4_J7_fill_53178_50 n I A J t x1) ≤ v5_2 → vp_in v5_2 10 ∧ lb_J7_fill_53178_50_5 n I A J t x1 f (qA13_J7_fill_53178_50 n I A J t x1 A5 v5_2) (q14_J7_fill_53178_50 n I A J t x1 A5 v5_2))
def qAw5_J7_fill_53178_50 (n : Nat) (I : Nat → Nat → Int32) (A : Nat → Nat → Int32) (J : Nat → Nat → Int64) (t : Bool × Bool) (x1 : Int32) : Nat → Nat → Int32 := (lp_J7_fill_53178_50_5 n I A J t x1 n A 0).1
def q2w5_J7_fill_53178_50 (n : Nat) (I : Nat → Nat → Int32) (A : Nat → Nat → Int32) (J : Nat → Nat → Int64) (t : Bool × Bool) (x1 : Int32) : Int32 := (lp_J7_fill_53178_50_5 n I A J t x1 n A 0).2
def pb_J7_fill_53178_50 (n : Nat) (I : Nat → Nat → Int32) (A : Nat → Nat → Int32) (J : Nat → Nat → Int64) (t : Bool × Bool) (x1 : Int32) : Prop := lb_J7_fill_53178_50_5 n I A J t x1 n A 0
def pA_J7_fill_53178_50 (n : Nat) (I : Nat → Nat → Int32) (A : Nat → Nat → Int32) (J : Nat → Nat → Int64) (t : Bool × Bool) (x1 : Int32) : Nat → Nat → Int32 := (qAw5_J7_fill_53178_50 n I A J t x1)
set_option maxRecDepth 100000 in
set_option maxHeartbeats 4000000 in
theorem lt_J7_fill_53178_50_5 (g : cw_G) (n : Nat) (I : Nat → Nat → Int32) (A : Nat → Nat → Int32) (J : Nat → Nat → Int64) (t : Bool × Bool) (x1 : Int32) {Q : Option Value → cw_H → Prop} : ∀ (f : Nat) (A5 : Nat → Nat → Int32) (v5_2 : Int32) (w0 : Nat → Nat → Int32) (w1 : Int32), lb_J7_fill_53178_50_5 n I A J t x1 f A5 v5_2 → (lp_J7_fill_53178_50_5 n I A J t x1 f A5 v5_2).1 = w0 → (lp_J7_fill_53178_50_5 n I A J t x1 f A5 v5_2).2 = w1 → Ev g mJ7_fill_53178 0 0 20 [some (.ref (cw_z g + 50)), some (.int x1), some (.int w1), some (.int (q4_J7_fill_53178_50 n I A J t x1))] [] (hp g I w0 J t) Q → Ev g mJ7_fill_53178 0 0 5 [some (.ref (cw_z g + 50)), some (.int x1), some (.int v5_2), some (.int (q4_J7_fill_53178_50 n I A J t x1))] [] (hp g I A5 J t) Q := by
  intro f
  induction f with
  | zero =>
    intro A5 v5_2 w0 w1 hb
    exact hb.elim
  | succ f ih =>
    intro A5 v5_2 w0 w1 hb h0 h1 hE
    rw [lb_J7_fill_53178_50_5] at hb
    rw [lp_J7_fill_53178_50_5] at h0 h1
    refine ev_iload_n (pc := 5) dJ7_fill_53178_5 rfl ?_
    refine ev_iload_n (pc := 6) dJ7_fill_53178_6 rfl ?_
    have hF_7 := hb
    refine ev_icmp_ge (pc := 7) (tgt := 20) dJ7_fill_53178_7 (by decide) (fun c_7 => ?_) (fun c_7 => ?_)
    · try simp only [if_pos c_7] at h0
      try simp only [if_pos c_7] at h1
      subst h0
      subst h1
      exact ev_loc hE cw_le0
    · have hb := hF_7 c_7
      try simp only [if_neg c_7] at h0
      try simp only [if_neg c_7] at h1
      refine ev_aload_n (pc := 10) dJ7_fill_53178_10 rfl ?_
      refine ev_iload_n (pc := 11) dJ7_fill_53178_11 rfl ?_
      refine ev_iload_n (pc := 12) dJ7_fill_53178_12 rfl ?_
      refine tw_iast (pc := 13) (A2 := (qA13_J7_fill_53178_50 n I A J t x1 A5 v5_2)) dJ7_fill_53178_13 (by decide) rfl hb.1 rfl ?_
      replace hb := hb.2
      refine ev_iinc_2 (pc := 14) (v := (q14_J7_fill_53178_50 n I A J t x1 A5 v5_2)) dJ7_fill_53178_14 (by decide) rfl rfl ?_
      refine ev_goto (pc := 17) (tgt := 5) dJ7_fill_53178_17 (by decide) ?_
      exact ev_loc (ih (qA13_J7_fill_53178_50 n I A J t x1 A5 v5_2) (q14_J7_fill_53178_50 n I A J t x1 A5 v5_2) w0 w1 hb h0 h1 hE) cw_le0

set_option maxRecDepth 100000 in
set_option maxHeartbeats 4000000 in
theorem cv_J7_fill_53178_50 (g : cw_G) (n : Nat) (I : Nat → Nat → Int32) (A : Nat → Nat → Int32) (J : Nat → Nat → Int64) (t : Bool × Bool) (x1 : Int32) (hb : pb_J7_fill_53178_50 n I A J t x1) : Cd g mJ7_fill_53178 [(.ref (cw_z g + 50)), (.int x1)] (hp g I A J t) none (hp g I (pA_J7_fill_53178_50 n I A J t x1) J t) := by
  unfold pb_J7_fill_53178_50 at hb
  unfold pA_J7_fill_53178_50
  refine Cd.of rfl (Nat.le_of_ble_eq_true rfl) (ev_gen (fun Q hQ => ?_))
  refine ev_iconst (pc := 0) (v := 0) dJ7_fill_53178_0 (by decide) ?_
  refine ev_istore_2 (pc := 1) dJ7_fill_53178_1 (by decide) rfl ?_
  refine ev_aload_n (pc := 2) dJ7_fill_53178_2 rfl ?_
  refine ev_alen (pc := 3) dJ7_fill_53178_3 (show 50 < 120 by decide) rfl (by decide) ?_
  refine ev_is (y := (q4_J7_fill_53178_50 n I A J t x1)) rfl ?_
  refine ev_istore_3 (pc := 4) dJ7_fill_53178_4 (by decide) rfl ?_
  refine lt_J7_fill_53178_50_5 g n I A J t x1 n A 0 (qAw5_J7_fill_53178_50 n I A J t x1) (q2w5_J7_fill_53178_50 n I A J t x1) hb rfl rfl ?_
  exact ev_vret (pc := 20) dJ7_fill_53178_20 rfl (by decide) (by decide) (hQ _ _ ⟨rfl, rfl⟩)

def px_X0_path (n : Nat) (I : Nat → Nat → Int32) (A : Nat → Nat → Int32) (J : Nat → Nat → Int64) (t : Bool × Bool) (x1 : Int32) (x2 : Int32) (x3 : Int32) : Int32 := ((((x1 * 8) + x2) * 6) + x3)
set_option maxRecDepth 100000 in
set_option maxHeartbeats 4000000 in
theorem cv_X0_path (g : cw_G) (n : Nat) (I : Nat → Nat → Int32) (A : Nat → Nat → Int32) (J : Nat → Nat → Int64) (t : Bool × Bool) (x1 : Int32) (x2 : Int32) (x3 : Int32) : Cd g mX0_path [(.int x1), (.int x2), (.int x3)] (hp g I A J t) (some (.int (px_X0_path n I A J t x1 x2 x3))) (hp g I A J t) := by
  unfold px_X0_path
  refine Cd.of rfl (Nat.le_of_ble_eq_true rfl) (ev_gen (fun Q hQ => ?_))
  refine ev_iload_n (pc := 0) dX0_path_0 rfl ?_
  refine ev_bipush (pc := 1) (v := 8) dX0_path_1 (by decide) ?_
  refine ev_imul (pc := 3) dX0_path_3 ?_
  refine ev_iload_n (pc := 4) dX0_path_4 rfl ?_
  refine ev_iadd (pc := 5) dX0_path_5 ?_
  refine ev_bipush (pc := 6) (v := 6) dX0_path_6 (by decide) ?_
  refine ev_imul (pc := 8) dX0_path_8 ?_
  refine ev_iload_n (pc := 9) dX0_path_9 rfl ?_
  refine ev_iadd (pc := 10) dX0_path_10 ?_
  exact ev_iret (pc := 11) dX0_path_11 rfl (by decide) (by decide) (hQ _ _ ⟨rfl, rfl⟩)

def pb_X0_renew_29 (n : Nat) (I : Nat → Nat → Int32) (A : Nat → Nat → Int32) (J : Nat → Nat → Int64) (t : Bool × Bool) : Prop := pb_J7_fill_53178_30 n I A J t 0 ∧ pb_J7_fill_53178_31 n I (pA_J7_fill_53178_30 n I A J t 0) J t 0
def pA_X0_renew_29 (n : Nat) (I : Nat → Nat → Int32) (A : Nat → Nat → Int32) (J : Nat → Nat → Int64) (t : Bool × Bool) : Nat → Nat → Int32 := (pA_J7_fill_53178_31 n I (pA_J7_fill_53178_30 n I A J t 0) J t 0)
set_option maxRecDepth 100000 in
set_option maxHeartbeats 4000000 in
theorem cv_X0_renew_29 (g : cw_G) (n : Nat) (I : Nat → Nat → Int32) (A : Nat → Nat → Int32) (J : Nat → Nat → Int64) (t : Bool × Bool) (hb : pb_X0_renew_29 n I A J t) : Cd g mX0_renew [(.ref (cw_z g + 29))] (hp g I A J t) none (hp g I (pA_X0_renew_29 n I A J t) J t) := by
  unfold pb_X0_renew_29 at hb
  unfold pA_X0_renew_29
  refine Cd.of rfl (Nat.le_of_ble_eq_true rfl) (ev_gen (fun Q hQ => ?_))
  refine ev_aload_n (pc := 0) dX0_renew_0 rfl ?_
  refine tv_getr (pc := 1) (d := 30) dX0_renew_1 fl_X0_9 (by decide) rfl rfl ?_
  refine ev_iconst (pc := 4) (v := 0) dX0_renew_4 (by decide) ?_
  refine ev_Sv (pc := 5) dX0_renew_5 lk_X0_18 cd_J7_fill_53178 ar_J7_fill_53178 ⟨by decide, rfl, rfl⟩ (cv_J7_fill_53178_30 g n I A J t 0 hb.1) rfl rfl (Nat.le_of_ble_eq_true rfl) ⟨by decide, by decide⟩ ?_
  replace hb := hb.2
  refine ev_aload_n (pc := 8) dX0_renew_8 rfl ?_
  refine tv_getr (pc := 9) (d := 31) dX0_renew_9 fl_X0_15 (by decide) rfl rfl ?_
  refine ev_iconst (pc := 12) (v := 0) dX0_renew_12 (by decide) ?_
  refine ev_Sv (pc := 13) dX0_renew_13 lk_X0_18 cd_J7_fill_53178 ar_J7_fill_53178 ⟨by decide, rfl, rfl⟩ (cv_J7_fill_53178_31 g n I (pA_J7_fill_53178_30 n I A J t 0) J t 0 hb) rfl rfl (Nat.le_of_ble_eq_true rfl) ⟨by decide, by decide⟩ ?_
  exact ev_vret (pc := 16) dX0_renew_16 rfl (by decide) (by decide) (hQ _ _ ⟨rfl, rfl⟩)

def q6_X0_add_29 (n : Nat) (I : Nat → Nat → Int32) (A : Nat → Nat → Int32) (J : Nat → Nat → Int64) (t : Bool × Bool) (x1 : Int32) (x2 : Int32) (x3 : Int32) (x4 : Int32) : Int32 := (px_X0_path n I A J t x1 x2 x3)
def qA19_X0_add_29 (n : Nat) (I : Nat → Nat → Int32) (A : Nat → Nat → Int32) (J : Nat → Nat → Int64) (t : Bool × Bool) (x1 : Int32) (x2 : Int32) (x3 : Int32) (x4 : Int32) : Nat → Nat → Int32 := cw_u A 30 ((q6_X0_add_29 n I A J t x1 x2 x3 x4)).toNatClampNeg ((A 30 ((q6_X0_add_29 n I A J t x1 x2 x3 x4)).toNatClampNeg) + x4)
def qA30_X0_add_29 (n : Nat) (I : Nat → Nat → Int32) (A : Nat → Nat → Int32) (J : Nat → Nat → Int64) (t : Bool × Bool) (x1 : Int32) (x2 : Int32) (x3 : Int32) (x4 : Int32) : Nat → Nat → Int32 := cw_u (qA19_X0_add_29 n I A J t x1 x2 x3 x4) 31 ((q6_X0_add_29 n I A J t x1 x2 x3 x4)).toNatClampNeg (((qA19_X0_add_29 n I A J t x1 x2 x3 x4) 31 ((q6_X0_add_29 n I A J t x1 x2 x3 x4)).toNatClampNeg) + 1)
def pb_X0_add_29 (n : Nat) (I : Nat → Nat → Int32) (A : Nat → Nat → Int32) (J : Nat → Nat → Int64) (t : Bool × Bool) (x1 : Int32) (x2 : Int32) (x3 : Int32) (x4 : Int32) : Prop := vp_in (q6_X0_add_29 n I A J t x1 x2 x3 x4) 192 ∧ vp_in (q6_X0_add_29 n I A J t x1 x2 x3 x4) 192 ∧ vp_in (q6_X0_add_29 n I A J t x1 x2 x3 x4) 192 ∧ vp_in (q6_X0_add_29 n I A J t x1 x2 x3 x4) 192
def pA_X0_add_29 (n : Nat) (I : Nat → Nat → Int32) (A : Nat → Nat → Int32) (J : Nat → Nat → Int64) (t : Bool × Bool) (x1 : Int32) (x2 : Int32) (x3 : Int32) (x4 : Int32) : Nat → Nat → Int32 := (qA30_X0_add_29 n I A J t x1 x2 x3 x4)
set_option maxRecDepth 100000 in
set_option maxHeartbeats 4000000 in
theorem cv_X0_add_29 (g : cw_G) (n : Nat) (I : Nat → Nat → Int32) (A : Nat → Nat → Int32) (J : Nat → Nat → Int64) (t : Bool × Bool) (x1 : Int32) (x2 : Int32) (x3 : Int32) (x4 : Int32) (hb : pb_X0_add_29 n I A J t x1 x2 x3 x4) : Cd g mX0_add [(.ref (cw_z g + 29)), (.int x1), (.int x2), (.int x3), (.int x4)] (hp g I A J t) none (hp g I (pA_X0_add_29 n I A J t x1 x2 x3 x4) J t) := by
  unfold pb_X0_add_29 at hb
  unfold pA_X0_add_29
  refine Cd.of rfl (Nat.le_of_ble_eq_true rfl) (ev_gen (fun Q hQ => ?_))
  refine ev_iload_n (pc := 0) dX0_add_0 rfl ?_
  refine ev_iload_n (pc := 1) dX0_add_1 rfl ?_
  refine ev_iload_n (pc := 2) dX0_add_2 rfl ?_
  refine ev_Si (pc := 3) dX0_add_3 lk_X0_24 cd_X0_path ar_X0_path ⟨by decide, rfl, rfl⟩ (cv_X0_path g n I A J t x1 x2 x3) rfl rfl (Nat.le_of_ble_eq_true rfl) ⟨by decide, by decide⟩ ?_
  refine ev_is (y := (q6_X0_add_29 n I A J t x1 x2 x3 x4)) rfl ?_
  refine ev_istore_5 (pc := 6) dX0_add_6 (by decide) rfl ?_
  refine ev_aload_n (pc := 8) dX0_add_8 rfl ?_
  refine tv_getr (pc := 9) (d := 30) dX0_add_9 fl_X0_9 (by decide) rfl rfl ?_
  refine ev_iload (pc := 12) dX0_add_12 rfl ?_
  refine ev_dup2 (pc := 14) dX0_add_14 rfl rfl ?_
  refine ev_iald (pc := 15) dX0_add_15 (by decide) rfl hb.1 ?_
  replace hb := hb.2
  refine ev_iload (pc := 16) dX0_add_16 rfl ?_
  refine ev_iadd (pc := 18) dX0_add_18 ?_
  refine tw_iast (pc := 19) (A2 := (qA19_X0_add_29 n I A J t x1 x2 x3 x4)) dX0_add_19 (by decide) rfl hb.1 rfl ?_
  replace hb := hb.2
  refine ev_aload_n (pc := 20) dX0_add_20 rfl ?_
  refine tv_getr (pc := 21) (d := 31) dX0_add_21 fl_X0_15 (by decide) rfl rfl ?_
  refine ev_iload (pc := 24) dX0_add_24 rfl ?_
  refine ev_dup2 (pc := 26) dX0_add_26 rfl rfl ?_
  refine ev_iald (pc := 27) dX0_add_27 (by decide) rfl hb.1 ?_
  replace hb := hb.2
  refine ev_iconst (pc := 28) (v := 1) dX0_add_28 (by decide) ?_
  refine ev_iadd (pc := 29) dX0_add_29 ?_
  refine tw_iast (pc := 30) (A2 := (qA30_X0_add_29 n I A J t x1 x2 x3 x4)) dX0_add_30 (by decide) rfl hb rfl ?_
  exact ev_vret (pc := 31) dX0_add_31 rfl (by decide) (by decide) (hQ _ _ ⟨rfl, rfl⟩)

def q6_X0_mean_29 (n : Nat) (I : Nat → Nat → Int32) (A : Nat → Nat → Int32) (J : Nat → Nat → Int64) (t : Bool × Bool) (x1 : Int32) (x2 : Int32) (x3 : Int32) : Int32 := (px_X0_path n I A J t x1 x2 x3)
def qs0m15_X0_mean_29 (n : Nat) (I : Nat → Nat → Int32) (A : Nat → Nat → Int32) (J : Nat → Nat → Int64) (t : Bool × Bool) (x1 : Int32) (x2 : Int32) (x3 : Int32) : Int32 := if (A 31 ((q6_X0_mean_29 n I A J t x1 x2 x3)).toNatClampNeg) = 0 then 0 else (px_J9_floorDiv_7cf53 n I A J t (A 30 ((q6_X0_mean_29 n I A J t x1 x2 x3)).toNatClampNeg) (A 31 ((q6_X0_mean_29 n I A J t x1 x2 x3)).toNatClampNeg))
def pb_X0_mean_29 (n : Nat) (I : Nat → Nat → Int32) (A : Nat → Nat → Int32) (J : Nat → Nat → Int64) (t : Bool × Bool) (x1 : Int32) (x2 : Int32) (x3 : Int32) : Prop := vp_in (q6_X0_mean_29 n I A J t x1 x2 x3) 192 ∧ (¬ (A 31 ((q6_X0_mean_29 n I A J t x1 x2 x3)).toNatClampNeg) = 0 → vp_in (q6_X0_mean_29 n I A J t x1 x2 x3) 192 ∧ vp_in (q6_X0_mean_29 n I A J t x1 x2 x3) 192 ∧ pb_J9_floorDiv_7cf53 n I A J t (A 30 ((q6_X0_mean_29 n I A J t x1 x2 x3)).toNatClampNeg) (A 31 ((q6_X0_mean_29 n I A J t x1 x2 x3)).toNatClampNeg))
def px_X0_mean_29 (n : Nat) (I : Nat → Nat → Int32) (A : Nat → Nat → Int32) (J : Nat → Nat → Int64) (t : Bool × Bool) (x1 : Int32) (x2 : Int32) (x3 : Int32) : Int32 := (qs0m15_X0_mean_29 n I A J t x1 x2 x3)
set_option maxRecDepth 100000 in
set_option maxHeartbeats 4000000 in
theorem cv_X0_mean_29 (g : cw_G) (n : Nat) (I : Nat → Nat → Int32) (A : Nat → Nat → Int32) (J : Nat → Nat → Int64) (t : Bool × Bool) (x1 : Int32) (x2 : Int32) (x3 : Int32) (hb : pb_X0_mean_29 n I A J t x1 x2 x3) : Cd g mX0_mean [(.ref (cw_z g + 29)), (.int x1), (.int x2), (.int x3)] (hp g I A J t) (some (.int (px_X0_mean_29 n I A J t x1 x2 x3))) (hp g I A J t) := by
  unfold pb_X0_mean_29 at hb
  unfold px_X0_mean_29
  refine Cd.of rfl (Nat.le_of_ble_eq_true rfl) (ev_gen (fun Q hQ => ?_))
  refine ev_iload_n (pc := 0) dX0_mean_0 rfl ?_
  refine ev_iload_n (pc := 1) dX0_mean_1 rfl ?_
  refine ev_iload_n (pc := 2) dX0_mean_2 rfl ?_
  refine ev_Si (pc := 3) dX0_mean_3 lk_X0_24 cd_X0_path ar_X0_path ⟨by decide, rfl, rfl⟩ (cv_X0_path g n I A J t x1 x2 x3) rfl rfl (Nat.le_of_ble_eq_true rfl) ⟨by decide, by decide⟩ ?_
  refine ev_is (y := (q6_X0_mean_29 n I A J t x1 x2 x3)) rfl ?_
  refine ev_istore_4 (pc := 6) dX0_mean_6 (by decide) rfl ?_
  refine ev_aload_n (pc := 8) dX0_mean_8 rfl ?_
  refine tv_getr (pc := 9) (d := 31) dX0_mean_9 fl_X0_15 (by decide) rfl rfl ?_
  refine ev_iload (pc := 12) dX0_mean_12 rfl ?_
  refine ev_iald (pc := 14) dX0_mean_14 (by decide) rfl hb.1 ?_
  replace hb := hb.2
  have hT_15 := hb
  refine ev_cut (pj := 39) (Lj := [some (.ref (cw_z g + 29)), some (.int x1), some (.int x2), some (.int x3), some (.int (q6_X0_mean_29 n I A J t x1 x2 x3))]) (stj := [(.int (qs0m15_X0_mean_29 n I A J t x1 x2 x3))]) (σj := hp g I A J t) ?_ (fun hJ_15 => ?_)
  rotate_left
  · refine ev_if_ne (pc := 15) (tgt := 22) dX0_mean_15 (by decide) (fun c_15 => ?_) (fun c_15 => ?_)
    · have hb := hT_15 c_15
      refine ev_aload_n (pc := 22) dX0_mean_22 rfl ?_
      refine tv_getr (pc := 23) (d := 30) dX0_mean_23 fl_X0_9 (by decide) rfl rfl ?_
      refine ev_iload (pc := 26) dX0_mean_26 rfl ?_
      refine ev_iald (pc := 28) dX0_mean_28 (by decide) rfl hb.1 ?_
      replace hb := hb.2
      refine ev_aload_n (pc := 29) dX0_mean_29 rfl ?_
      refine tv_getr (pc := 30) (d := 31) dX0_mean_30 fl_X0_15 (by decide) rfl rfl ?_
      refine ev_iload (pc := 33) dX0_mean_33 rfl ?_
      refine ev_iald (pc := 35) dX0_mean_35 (by decide) rfl hb.1 ?_
      replace hb := hb.2
      refine ev_Si (pc := 36) dX0_mean_36 lk_X0_28 cd_J9_floorDiv_7cf53 ar_J9_floorDiv_7cf53 ⟨by decide, rfl, rfl⟩ (cv_J9_floorDiv_7cf53 g n I A J t (A 30 ((q6_X0_mean_29 n I A J t x1 x2 x3)).toNatClampNeg) (A 31 ((q6_X0_mean_29 n I A J t x1 x2 x3)).toNatClampNeg) hb) rfl rfl (Nat.le_of_ble_eq_true rfl) ⟨by decide, by decide⟩ ?_
      simp only [qs0m15_X0_mean_29, if_neg c_15] at hJ_15
      exact ev_loc hJ_15 cw_le0
    · refine ev_iconst (pc := 18) (v := 0) dX0_mean_18 (by decide) ?_
      refine ev_goto (pc := 19) (tgt := 39) dX0_mean_19 (by decide) ?_
      simp only [qs0m15_X0_mean_29, if_pos c_15] at hJ_15
      exact ev_loc hJ_15 cw_le0
  exact ev_iret (pc := 39) dX0_mean_39 rfl (by decide) (by decide) (hQ _ _ ⟨rfl, rfl⟩)

def qI2_X5_renew_53 (n : Nat) (I : Nat → Nat → Int32) (A : Nat → Nat → Int32) (J : Nat → Nat → Int64) (t : Bool × Bool) (x1 : Int32) : Nat → Nat → Int32 := cw_u I 53 7 1
def qI7_X5_renew_53 (n : Nat) (I : Nat → Nat → Int32) (A : Nat → Nat → Int32) (J : Nat → Nat → Int64) (t : Bool × Bool) (x1 : Int32) : Nat → Nat → Int32 := cw_u (qI2_X5_renew_53 n I A J t x1) 53 6 x1
def pb_X5_renew_53 (n : Nat) (I : Nat → Nat → Int32) (A : Nat → Nat → Int32) (J : Nat → Nat → Int64) (t : Bool × Bool) (x1 : Int32) : Prop := pb_J7_fill_53178_54 n (qI7_X5_renew_53 n I A J t x1) A J t (-1) ∧ pb_J7_fill_53178_55 n (qI7_X5_renew_53 n I A J t x1) (pA_J7_fill_53178_54 n (qI7_X5_renew_53 n I A J t x1) A J t (-1)) J t (-1) ∧ pb_J7_fill_53178_56 n (qI7_X5_renew_53 n I A J t x1) (pA_J7_fill_53178_55 n (qI7_X5_renew_53 n I A J t x1) (pA_J7_fill_53178_54 n (qI7_X5_renew_53 n I A J t x1) A J t (-1)) J t (-1)) J t (-1) ∧ pb_J7_fill_53178_57 n (qI7_X5_renew_53 n I A J t x1) (pA_J7_fill_53178_56 n (qI7_X5_renew_53 n I A J t x1) (pA_J7_fill_53178_55 n (qI7_X5_renew_53 n I A J t x1) (pA_J7_fill_53178_54 n (qI7_X5_renew_53 n I A J t x1) A J t (-1)) J t (-1)) J t (-1)) J t 0 ∧ pb_J7_fill_53178_58 n (qI7_X5_renew_53 n I A J t x1) (pA_J7_fill_53178_57 n (qI7_X5_renew_53 n I A J t x1) (pA_J7_fill_53178_56 n (qI7_X5_renew_53 n I A J t x1) (pA_J7_fill_53178_55 n (qI7_X5_renew_53 n I A J t x1) (pA_J7_fill_53178_54 n (qI7_X5_renew_53 n I A J t x1) A J t (-1)) J t (-1)) J t (-1)) J t 0) J t (-1) ∧ pb_J7_fill_53178_59 n (qI7_X5_renew_53 n I A J t x1) (pA_J7_fill_53178_58 n (qI7_X5_renew_53 n I A J t x1) (pA_J7_fill_53178_57 n (qI7_X5_renew_53 n I A J t x1) (pA_J7_fill_53178_56 n (qI7_X5_renew_53 n I A J t x1) (pA_J7_fill_53178_55 n (qI7_X5_renew_53 n I A J t x1) (pA_J7_fill_53178_54 n (qI7_X5_renew_53 n I A J t x1) A J t (-1)) J t (-1)) J t (-1)) J t 0) J t (-1)) J t 0
def pI_X5_renew_53 (n : Nat) (I : Nat → Nat → Int32) (A : Nat → Nat → Int32) (J : Nat → Nat → Int64) (t : Bool × Bool) (x1 : Int32) : Nat → Nat → Int32 := (qI7_X5_renew_53 n I A J t x1)
def pA_X5_renew_53 (n : Nat) (I : Nat → Nat → Int32) (A : Nat → Nat → Int32) (J : Nat → Nat → Int64) (t : Bool × Bool) (x1 : Int32) : Nat → Nat → Int32 := (pA_J7_fill_53178_59 n (qI7_X5_renew_53 n I A J t x1) (pA_J7_fill_53178_58 n (qI7_X5_renew_53 n I A J t x1) (pA_J7_fill_53178_57 n (qI7_X5_renew_53 n I A J t x1) (pA_J7_fill_53178_56 n (qI7_X5_renew_53 n I A J t x1) (pA_J7_fill_53178_55 n (qI7_X5_renew_53 n I A J t x1) (pA_J7_fill_53178_54 n (qI7_X5_renew_53 n I A J t x1) A J t (-1)) J t (-1)) J t (-1)) J t 0) J t (-1)) J t 0)
set_option maxRecDepth 100000 in
set_option maxHeartbeats 4000000 in
theorem cv_X5_renew_53 (g : cw_G) (n : Nat) (I : Nat → Nat → Int32) (A : Nat → Nat → Int32) (J : Nat → Nat → Int64) (t : Bool × Bool) (x1 : Int32) (hb : pb_X5_renew_53 n I A J t x1) : Cd g mX5_renew [(.ref (cw_z g + 53)), (.int x1)] (hp g I A J t) none (hp g (pI_X5_renew_53 n I A J t x1) (pA_X5_renew_53 n I A J t x1) J t) := by
  unfold pb_X5_renew_53 at hb
  unfold pI_X5_renew_53 pA_X5_renew_53
  refine Cd.of rfl (Nat.le_of_ble_eq_true rfl) (ev_gen (fun Q hQ => ?_))
  refine ev_aload_n (pc := 0) dX5_renew_0 rfl ?_
  refine ev_iconst (pc := 1) (v := 1) dX5_renew_1 (by decide) ?_
  refine tw_putz (pc := 2) (I2 := (qI2_X5_renew_53 n I A J t x1)) dX5_renew_2 fp_X5_34 (by decide) rfl rfl (by simp) rfl ?_
  refine ev_aload_n (pc := 5) dX5_renew_5 rfl ?_
  refine ev_iload_n (pc := 6) dX5_renew_6 rfl ?_
  refine tw_puti (pc := 7) (I2 := (qI7_X5_renew_53 n I A J t x1)) dX5_renew_7 fp_X5_30 (by decide) rfl rfl rfl ?_
  refine ev_aload_n (pc := 10) dX5_renew_10 rfl ?_
  refine tv_getr (pc := 11) (d := 54) dX5_renew_11 fl_X5_9 (by decide) rfl rfl ?_
  refine ev_iconst (pc := 14) (v := (-1)) dX5_renew_14 (by decide) ?_
  refine ev_Sv (pc := 15) dX5_renew_15 lk_X5_38 cd_J7_fill_53178 ar_J7_fill_53178 ⟨by decide, rfl, rfl⟩ (cv_J7_fill_53178_54 g n (qI7_X5_renew_53 n I A J t x1) A J t (-1) hb.1) rfl rfl (Nat.le_of_ble_eq_true rfl) ⟨by decide, by decide⟩ ?_
  replace hb := hb.2
  refine ev_aload_n (pc := 18) dX5_renew_18 rfl ?_
  refine tv_getr (pc := 19) (d := 55) dX5_renew_19 fl_X5_15 (by decide) rfl rfl ?_
  refine ev_iconst (pc := 22) (v := (-1)) dX5_renew_22 (by decide) ?_
  refine ev_Sv (pc := 23) dX5_renew_23 lk_X5_38 cd_J7_fill_53178 ar_J7_fill_53178 ⟨by decide, rfl, rfl⟩ (cv_J7_fill_53178_55 g n (qI7_X5_renew_53 n I A J t x1) (pA_J7_fill_53178_54 n (qI7_X5_renew_53 n I A J t x1) A J t (-1)) J t (-1) hb.1) rfl rfl (Nat.le_of_ble_eq_true rfl) ⟨by decide, by decide⟩ ?_
  replace hb := hb.2
  refine ev_aload_n (pc := 26) dX5_renew_26 rfl ?_
  refine tv_getr (pc := 27) (d := 56) dX5_renew_27 fl_X5_18 (by decide) rfl rfl ?_
  refine ev_iconst (pc := 30) (v := (-1)) dX5_renew_30 (by decide) ?_
  refine ev_Sv (pc := 31) dX5_renew_31 lk_X5_38 cd_J7_fill_53178 ar_J7_fill_53178 ⟨by decide, rfl, rfl⟩ (cv_J7_fill_53178_56 g n (qI7_X5_renew_53 n I A J t x1) (pA_J7_fill_53178_55 n (qI7_X5_renew_53 n I A J t x1) (pA_J7_fill_53178_54 n (qI7_X5_renew_53 n I A J t x1) A J t (-1)) J t (-1)) J t (-1) hb.1) rfl rfl (Nat.le_of_ble_eq_true rfl) ⟨by decide, by decide⟩ ?_
  replace hb := hb.2
  refine ev_aload_n (pc := 34) dX5_renew_34 rfl ?_
  refine tv_getr (pc := 35) (d := 57) dX5_renew_35 fl_X5_21 (by decide) rfl rfl ?_
  refine ev_iconst (pc := 38) (v := 0) dX5_renew_38 (by decide) ?_
  refine ev_Sv (pc := 39) dX5_renew_39 lk_X5_38 cd_J7_fill_53178 ar_J7_fill_53178 ⟨by decide, rfl, rfl⟩ (cv_J7_fill_53178_57 g n (qI7_X5_renew_53 n I A J t x1) (pA_J7_fill_53178_56 n (qI7_X5_renew_53 n I A J t x1) (pA_J7_fill_53178_55 n (qI7_X5_renew_53 n I A J t x1) (pA_J7_fill_53178_54 n (qI7_X5_renew_53 n I A J t x1) A J t (-1)) J t (-1)) J t (-1)) J t 0 hb.1) rfl rfl (Nat.le_of_ble_eq_true rfl) ⟨by decide, by decide⟩ ?_
  replace hb := hb.2
  refine ev_aload_n (pc := 42) dX5_renew_42 rfl ?_
  refine tv_getr (pc := 43) (d := 58) dX5_renew_43 fl_X5_24 (by decide) rfl rfl ?_
  refine ev_iconst (pc := 46) (v := (-1)) dX5_renew_46 (by decide) ?_
  refine ev_Sv (pc := 47) dX5_renew_47 lk_X5_38 cd_J7_fill_53178 ar_J7_fill_53178 ⟨by decide, rfl, rfl⟩ (cv_J7_fill_53178_58 g n (qI7_X5_renew_53 n I A J t x1) (pA_J7_fill_53178_57 n (qI7_X5_renew_53 n I A J t x1) (pA_J7_fill_53178_56 n (qI7_X5_renew_53 n I A J t x1) (pA_J7_fill_53178_55 n (qI7_X5_renew_53 n I A J t x1) (pA_J7_fill_53178_54 n (qI7_X5_renew_53 n I A J t x1) A J t (-1)) J t (-1)) J t (-1)) J t 0) J t (-1) hb.1) rfl rfl (Nat.le_of_ble_eq_true rfl) ⟨by decide, by decide⟩ ?_
  replace hb := hb.2
  refine ev_aload_n (pc := 50) dX5_renew_50 rfl ?_
  refine tv_getr (pc := 51) (d := 59) dX5_renew_51 fl_X5_27 (by decide) rfl rfl ?_
  refine ev_iconst (pc := 54) (v := 0) dX5_renew_54 (by decide) ?_
  refine ev_Sv (pc := 55) dX5_renew_55 lk_X5_38 cd_J7_fill_53178 ar_J7_fill_53178 ⟨by decide, rfl, rfl⟩ (cv_J7_fill_53178_59 g n (qI7_X5_renew_53 n I A J t x1) (pA_J7_fill_53178_58 n (qI7_X5_renew_53 n I A J t x1) (pA_J7_fill_53178_57 n (qI7_X5_renew_53 n I A J t x1) (pA_J7_fill_53178_56 n (qI7_X5_renew_53 n I A J t x1) (pA_J7_fill_53178_55 n (qI7_X5_renew_53 n I A J t x1) (pA_J7_fill_53178_54 n (qI7_X5_renew_53 n I A J t x1) A J t (-1)) J t (-1)) J t (-1)) J t 0) J t (-1)) J t 0 hb) rfl rfl (Nat.le_of_ble_eq_true rfl) ⟨by decide, by decide⟩ ?_
  exact ev_vret (pc := 58) dX5_renew_58 rfl (by decide) (by decide) (hQ _ _ ⟨rfl, rfl⟩)

def qs0m9_X5_hasProgramme_53 (n : Nat) (I : Nat → Nat → Int32) (A : Nat → Nat → Int32) (J : Nat → Nat → Int64) (t : Bool × Bool) (x1 : Int32) : Int32 := if (I 53 6) ≤ x1 then 0 else 1
def qs0m1_X5_hasProgramme_53 (n : Nat) (I : Nat → Nat → Int32) (A : Nat → Nat → Int32) (J : Nat → Nat → Int64) (t : Bool × Bool) (x1 : Int32) : Int32 := if x1 < 0 then 0 else (qs0m9_X5_hasProgramme_53 n I A J t x1)
def px_X5_hasProgramme_53 (n : Nat) (I : Nat → Nat → Int32) (A : Nat → Nat → Int32) (J : Nat → Nat → Int64) (t : Bool × Bool) (x1 : Int32) : Int32 := (qs0m1_X5_hasProgramme_53 n I A J t x1)
set_option maxRecDepth 100000 in
set_option maxHeartbeats 4000000 in
theorem cv_X5_hasProgramme_53 (g : cw_G) (n : Nat) (I : Nat → Nat → Int32) (A : Nat → Nat → Int32) (J : Nat → Nat → Int64) (t : Bool × Bool) (x1 : Int32) : Cd g mX5_hasProgramme [(.ref (cw_z g + 53)), (.int x1)] (hp g I A J t) (some (.int (px_X5_hasProgramme_53 n I A J t x1))) (hp g I A J t) := by
  unfold px_X5_hasProgramme_53
  refine Cd.of rfl (Nat.le_of_ble_eq_true rfl) (ev_gen (fun Q hQ => ?_))
  refine ev_iload_n (pc := 0) dX5_hasProgramme_0 rfl ?_
  refine ev_cut (pj := 17) (Lj := [some (.ref (cw_z g + 53)), some (.int x1)]) (stj := [(.int (qs0m1_X5_hasProgramme_53 n I A J t x1))]) (σj := hp g I A J t) ?_ (fun hJ_1 => ?_)
  rotate_left
  · refine ev_if_lt (pc := 1) (tgt := 16) dX5_hasProgramme_1 (by decide) (fun c_1 => ?_) (fun c_1 => ?_)
    · refine ev_iconst (pc := 16) (v := 0) dX5_hasProgramme_16 (by decide) ?_
      simp only [qs0m1_X5_hasProgramme_53, if_pos c_1] at hJ_1
      exact ev_loc hJ_1 cw_le0
    · refine ev_iload_n (pc := 4) dX5_hasProgramme_4 rfl ?_
      refine ev_aload_n (pc := 5) dX5_hasProgramme_5 rfl ?_
      refine tv_geti (pc := 6) dX5_hasProgramme_6 fl_X5_30 (by decide) rfl rfl ?_
      refine ev_cut (pj := 17) (Lj := [some (.ref (cw_z g + 53)), some (.int x1)]) (stj := [(.int (qs0m9_X5_hasProgramme_53 n I A J t x1))]) (σj := hp g I A J t) ?_ (fun hJ_9 => ?_)
      rotate_left
      · refine ev_icmp_ge (pc := 9) (tgt := 16) dX5_hasProgramme_9 (by decide) (fun c_9 => ?_) (fun c_9 => ?_)
        · refine ev_iconst (pc := 16) (v := 0) dX5_hasProgramme_16 (by decide) ?_
          simp only [qs0m9_X5_hasProgramme_53, if_pos c_9] at hJ_9
          exact ev_loc hJ_9 cw_le0
        · refine ev_iconst (pc := 12) (v := 1) dX5_hasProgramme_12 (by decide) ?_
          refine ev_goto (pc := 13) (tgt := 17) dX5_hasProgramme_13 (by decide) ?_
          simp only [qs0m9_X5_hasProgramme_53, if_neg c_9] at hJ_9
          exact ev_loc hJ_9 cw_le0
      simp only [qs0m1_X5_hasProgramme_53, if_neg c_1] at hJ_1
      exact ev_loc hJ_1 cw_le0
  exact ev_zret (pc := 17) dX5_hasProgramme_17 rfl (cw_nz (cw_ite (Or.inl rfl) (cw_ite (Or.inl rfl) (Or.inr rfl)))) (by decide) (by decide) (hQ _ _ ⟨rfl, rfl⟩)

theorem z1_X5_hasProgramme_53 (n : Nat) (I : Nat → Nat → Int32) (A : Nat → Nat → Int32) (J : Nat → Nat → Int64) (t : Bool × Bool) (x1 : Int32) : px_X5_hasProgramme_53 n I A J t x1 = 0 ∨ px_X5_hasProgramme_53 n I A J t x1 = 1 := (cw_ite (Or.inl rfl) (cw_ite (Or.inl rfl) (Or.inr rfl)))

def q6_X5_put_53 (n : Nat) (I : Nat → Nat → Int32) (A : Nat → Nat → Int32) (J : Nat → Nat → Int64) (t : Bool × Bool) (x1 : Int32) (x2 : Int32) (x3 : Int32) (x4 : Int32) (x5 : Int32) (x6 : Int32) : Int32 := ((x1 * 10) + x2)
def qA15_X5_put_53 (n : Nat) (I : Nat → Nat → Int32) (A : Nat → Nat → Int32) (J : Nat → Nat → Int64) (t : Bool × Bool) (x1 : Int32) (x2 : Int32) (x3 : Int32) (x4 : Int32) (x5 : Int32) (x6 : Int32) : Nat → Nat → Int32 := cw_u A 54 ((q6_X5_put_53 n I A J t x1 x2 x3 x4 x5 x6)).toNatClampNeg x3
def qA24_X5_put_53 (n : Nat) (I : Nat → Nat → Int32) (A : Nat → Nat → Int32) (J : Nat → Nat → Int64) (t : Bool × Bool) (x1 : Int32) (x2 : Int32) (x3 : Int32) (x4 : Int32) (x5 : Int32) (x6 : Int32) : Nat → Nat → Int32 := cw_u (qA15_X5_put_53 n I A J t x1 x2 x3 x4 x5 x6) 55 ((q6_X5_put_53 n I A J t x1 x2 x3 x4 x5 x6)).toNatClampNeg x4
def qA33_X5_put_53 (n : Nat) (I : Nat → Nat → Int32) (A : Nat → Nat → Int32) (J : Nat → Nat → Int64) (t : Bool × Bool) (x1 : Int32) (x2 : Int32) (x3 : Int32) (x4 : Int32) (x5 : Int32) (x6 : Int32) : Nat → Nat → Int32 := cw_u (qA24_X5_put_53 n I A J t x1 x2 x3 x4 x5 x6) 56 ((q6_X5_put_53 n I A J t x1 x2 x3 x4 x5 x6)).toNatClampNeg x5
def qA42_X5_put_53 (n : Nat) (I : Nat → Nat → Int32) (A : Nat → Nat → Int32) (J : Nat → Nat → Int64) (t : Bool × Bool) (x1 : Int32) (x2 : Int32) (x3 : Int32) (x4 : Int32) (x5 : Int32) (x6 : Int32) : Nat → Nat → Int32 := cw_u (qA33_X5_put_53 n I A J t x1 x2 x3 x4 x5 x6) 57 ((q6_X5_put_53 n I A J t x1 x2 x3 x4 x5 x6)).toNatClampNeg x6
def qA55_X5_put_53 (n : Nat) (I : Nat → Nat → Int32) (A : Nat → Nat → Int32) (J : Nat → Nat → Int64) (t : Bool × Bool) (x1 : Int32) (x2 : Int32) (x3 : Int32) (x4 : Int32) (x5 : Int32) (x6 : Int32) : Nat → Nat → Int32 := cw_u (qA42_X5_put_53 n I A J t x1 x2 x3 x4 x5 x6) 58 (((x1 * 6) + x3)).toNatClampNeg x5
def pb_X5_put_53 (n : Nat) (I : Nat → Nat → Int32) (A : Nat → Nat → Int32) (J : Nat → Nat → Int64) (t : Bool × Bool) (x1 : Int32) (x2 : Int32) (x3 : Int32) (x4 : Int32) (x5 : Int32) (x6 : Int32) : Prop := vp_in (q6_X5_put_53 n I A J t x1 x2 x3 x4 x5 x6) 240 ∧ vp_in (q6_X5_put_53 n I A J t x1 x2 x3 x4 x5 x6) 240 ∧ vp_in (q6_X5_put_53 n I A J t x1 x2 x3 x4 x5 x6) 240 ∧ vp_in (q6_X5_put_53 n I A J t x1 x2 x3 x4 x5 x6) 240 ∧ vp_in ((x1 * 6) + x3) 144
def pA_X5_put_53 (n : Nat) (I : Nat → Nat → Int32) (A : Nat → Nat → Int32) (J : Nat → Nat → Int64) (t : Bool × Bool) (x1 : Int32) (x2 : Int32) (x3 : Int32) (x4 : Int32) (x5 : Int32) (x6 : Int32) : Nat → Nat → Int32 := (qA55_X5_put_53 n I A J t x1 x2 x3 x4 x5 x6)
set_option maxRecDepth 100000 in
set_option maxHeartbeats 4000000 in
theorem cv_X5_put_53 (g : cw_G) (n : Nat) (I : Nat → Nat → Int32) (A : Nat → Nat → Int32) (J : Nat → Nat → Int64) (t : Bool × Bool) (x1 : Int32) (x2 : Int32) (x3 : Int32) (x4 : Int32) (x5 : Int32) (x6 : Int32) (hb : pb_X5_put_53 n I A J t x1 x2 x3 x4 x5 x6) : Cd g mX5_put [(.ref (cw_z g + 53)), (.int x1), (.int x2), (.int x3), (.int x4), (.int x5), (.int x6)] (hp g I A J t) none (hp g I (pA_X5_put_53 n I A J t x1 x2 x3 x4 x5 x6) J t) := by
  unfold pb_X5_put_53 at hb
  unfold pA_X5_put_53
  refine Cd.of rfl (Nat.le_of_ble_eq_true rfl) (ev_gen (fun Q hQ => ?_))
  refine ev_iload_n (pc := 0) dX5_put_0 rfl ?_
  refine ev_bipush (pc := 1) (v := 10) dX5_put_1 (by decide) ?_
  refine ev_imul (pc := 3) dX5_put_3 ?_
  refine ev_iload_n (pc := 4) dX5_put_4 rfl ?_
  refine ev_iadd (pc := 5) dX5_put_5 ?_
  refine ev_is (y := (q6_X5_put_53 n I A J t x1 x2 x3 x4 x5 x6)) rfl ?_
  refine ev_istore_7 (pc := 6) dX5_put_6 (by decide) rfl ?_
  refine ev_aload_n (pc := 8) dX5_put_8 rfl ?_
  refine tv_getr (pc := 9) (d := 54) dX5_put_9 fl_X5_9 (by decide) rfl rfl ?_
  refine ev_iload (pc := 12) dX5_put_12 rfl ?_
  refine ev_iload_n (pc := 14) dX5_put_14 rfl ?_
  refine tw_iast (pc := 15) (A2 := (qA15_X5_put_53 n I A J t x1 x2 x3 x4 x5 x6)) dX5_put_15 (by decide) rfl hb.1 rfl ?_
  replace hb := hb.2
  refine ev_aload_n (pc := 16) dX5_put_16 rfl ?_
  refine tv_getr (pc := 17) (d := 55) dX5_put_17 fl_X5_15 (by decide) rfl rfl ?_
  refine ev_iload (pc := 20) dX5_put_20 rfl ?_
  refine ev_iload (pc := 22) dX5_put_22 rfl ?_
  refine tw_iast (pc := 24) (A2 := (qA24_X5_put_53 n I A J t x1 x2 x3 x4 x5 x6)) dX5_put_24 (by decide) rfl hb.1 rfl ?_
  replace hb := hb.2
  refine ev_aload_n (pc := 25) dX5_put_25 rfl ?_
  refine tv_getr (pc := 26) (d := 56) dX5_put_26 fl_X5_18 (by decide) rfl rfl ?_
  refine ev_iload (pc := 29) dX5_put_29 rfl ?_
  refine ev_iload (pc := 31) dX5_put_31 rfl ?_
  refine tw_iast (pc := 33) (A2 := (qA33_X5_put_53 n I A J t x1 x2 x3 x4 x5 x6)) dX5_put_33 (by decide) rfl hb.1 rfl ?_
  replace hb := hb.2
  refine ev_aload_n (pc := 34) dX5_put_34 rfl ?_
  refine tv_getr (pc := 35) (d := 57) dX5_put_35 fl_X5_21 (by decide) rfl rfl ?_
  refine ev_iload (pc := 38) dX5_put_38 rfl ?_
  refine ev_iload (pc := 40) dX5_put_40 rfl ?_
  refine tw_iast (pc := 42) (A2 := (qA42_X5_put_53 n I A J t x1 x2 x3 x4 x5 x6)) dX5_put_42 (by decide) rfl hb.1 rfl ?_
  replace hb := hb.2
  refine ev_aload_n (pc := 43) dX5_put_43 rfl ?_
  refine tv_getr (pc := 44) (d := 58) dX5_put_44 fl_X5_24 (by decide) rfl rfl ?_
  refine ev_iload_n (pc := 47) dX5_put_47 rfl ?_
  refine ev_bipush (pc := 48) (v := 6) dX5_put_48 (by decide) ?_
  refine ev_imul (pc := 50) dX5_put_50 ?_
  refine ev_iload_n (pc := 51) dX5_put_51 rfl ?_
  refine ev_iadd (pc := 52) dX5_put_52 ?_
  refine ev_iload (pc := 53) dX5_put_53 rfl ?_
  refine tw_iast (pc := 55) (A2 := (qA55_X5_put_53 n I A J t x1 x2 x3 x4 x5 x6)) dX5_put_55 (by decide) rfl hb rfl ?_
  exact ev_vret (pc := 56) dX5_put_56 rfl (by decide) (by decide) (hQ _ _ ⟨rfl, rfl⟩)

def qA9_X5_addListeners_53 (n : Nat) (I : Nat → Nat → Int32) (A : Nat → Nat → Int32) (J : Nat → Nat → Int64) (t : Bool × Bool) (x1 : Int32) (x2 : Int32) : Nat → Nat → Int32 := cw_u A 59 (x1).toNatClampNeg ((A 59 (x1).toNatClampNeg) + x2)
def pb_X5_addListeners_53 (n : Nat) (I : Nat → Nat → Int32) (A : Nat → Nat → Int32) (J : Nat → Nat → Int64) (t : Bool × Bool) (x1 : Int32) (x2 : Int32) : Prop := vp_in x1 24 ∧ vp_in x1 24
def pA_X5_addListeners_53 (n : Nat) (I : Nat → Nat → Int32) (A : Nat → Nat → Int32) (J : Nat → Nat → Int64) (t : Bool × Bool) (x1 : Int32) (x2 : Int32) : Nat → Nat → Int32 := (qA9_X5_addListeners_53 n I A J t x1 x2)
set_option maxRecDepth 100000 in
set_option maxHeartbeats 4000000 in
theorem cv_X5_addListeners_53 (g : cw_G) (n : Nat) (I : Nat → Nat → Int32) (A : Nat → Nat → Int32) (J : Nat → Nat → Int64) (t : Bool × Bool) (x1 : Int32) (x2 : Int32) (hb : pb_X5_addListeners_53 n I A J t x1 x2) : Cd g mX5_addListeners [(.ref (cw_z g + 53)), (.int x1), (.int x2)] (hp g I A J t) none (hp g I (pA_X5_addListeners_53 n I A J t x1 x2) J t) := by
  unfold pb_X5_addListeners_53 at hb
  unfold pA_X5_addListeners_53
  refine Cd.of rfl (Nat.le_of_ble_eq_true rfl) (ev_gen (fun Q hQ => ?_))
  refine ev_aload_n (pc := 0) dX5_addListeners_0 rfl ?_
  refine tv_getr (pc := 1) (d := 59) dX5_addListeners_1 fl_X5_27 (by decide) rfl rfl ?_
  refine ev_iload_n (pc := 4) dX5_addListeners_4 rfl ?_
  refine ev_dup2 (pc := 5) dX5_addListeners_5 rfl rfl ?_
  refine ev_iald (pc := 6) dX5_addListeners_6 (by decide) rfl hb.1 ?_
  replace hb := hb.2
  refine ev_iload_n (pc := 7) dX5_addListeners_7 rfl ?_
  refine ev_iadd (pc := 8) dX5_addListeners_8 ?_
  refine tw_iast (pc := 9) (A2 := (qA9_X5_addListeners_53 n I A J t x1 x2)) dX5_addListeners_9 (by decide) rfl hb rfl ?_
  exact ev_vret (pc := 10) dX5_addListeners_10 rfl (by decide) (by decide) (hQ _ _ ⟨rfl, rfl⟩)

def pb_X5_listenersIn_53 (n : Nat) (I : Nat → Nat → Int32) (A : Nat → Nat → Int32) (J : Nat → Nat → Int64) (t : Bool × Bool) (x1 : Int32) : Prop := vp_in x1 24
def px_X5_listenersIn_53 (n : Nat) (I : Nat → Nat → Int32) (A : Nat → Nat → Int32) (J : Nat → Nat → Int64) (t : Bool × Bool) (x1 : Int32) : Int32 := (A 59 (x1).toNatClampNeg)
set_option maxRecDepth 100000 in
set_option maxHeartbeats 4000000 in
theorem cv_X5_listenersIn_53 (g : cw_G) (n : Nat) (I : Nat → Nat → Int32) (A : Nat → Nat → Int32) (J : Nat → Nat → Int64) (t : Bool × Bool) (x1 : Int32) (hb : pb_X5_listenersIn_53 n I A J t x1) : Cd g mX5_listenersIn [(.ref (cw_z g + 53)), (.int x1)] (hp g I A J t) (some (.int (px_X5_listenersIn_53 n I A J t x1))) (hp g I A J t) := by
  unfold pb_X5_listenersIn_53 at hb
  unfold px_X5_listenersIn_53
  refine Cd.of rfl (Nat.le_of_ble_eq_true rfl) (ev_gen (fun Q hQ => ?_))
  refine ev_aload_n (pc := 0) dX5_listenersIn_0 rfl ?_
  refine tv_getr (pc := 1) (d := 59) dX5_listenersIn_1 fl_X5_27 (by decide) rfl rfl ?_
  refine ev_iload_n (pc := 4) dX5_listenersIn_4 rfl ?_
  refine ev_iald (pc := 5) dX5_listenersIn_5 (by decide) rfl hb ?_
  exact ev_iret (pc := 6) dX5_listenersIn_6 rfl (by decide) (by decide) (hQ _ _ ⟨rfl, rfl⟩)

def qs0m1_X5_aimOfMast_53 (n : Nat) (I : Nat → Nat → Int32) (A : Nat → Nat → Int32) (J : Nat → Nat → Int64) (t : Bool × Bool) (x1 : Int32) (x2 : Int32) : Int32 := if 0 ≤ x1 then (A 58 (((x1 * 6) + x2)).toNatClampNeg) else (-1)
def pb_X5_aimOfMast_53 (n : Nat) (I : Nat → Nat → Int32) (A : Nat → Nat → Int32) (J : Nat → Nat → Int64) (t : Bool × Bool) (x1 : Int32) (x2 : Int32) : Prop := (0 ≤ x1 → vp_in ((x1 * 6) + x2) 144)
def px_X5_aimOfMast_53 (n : Nat) (I : Nat → Nat → Int32) (A : Nat → Nat → Int32) (J : Nat → Nat → Int64) (t : Bool × Bool) (x1 : Int32) (x2 : Int32) : Int32 := (qs0m1_X5_aimOfMast_53 n I A J t x1 x2)
set_option maxRecDepth 100000 in
set_option maxHeartbeats 4000000 in
theorem cv_X5_aimOfMast_53 (g : cw_G) (n : Nat) (I : Nat → Nat → Int32) (A : Nat → Nat → Int32) (J : Nat → Nat → Int64) (t : Bool × Bool) (x1 : Int32) (x2 : Int32) (hb : pb_X5_aimOfMast_53 n I A J t x1 x2) : Cd g mX5_aimOfMast [(.ref (cw_z g + 53)), (.int x1), (.int x2)] (hp g I A J t) (some (.int (px_X5_aimOfMast_53 n I A J t x1 x2))) (hp g I A J t) := by
  unfold pb_X5_aimOfMast_53 at hb
  unfold px_X5_aimOfMast_53
  refine Cd.of rfl (Nat.le_of_ble_eq_true rfl) (ev_gen (fun Q hQ => ?_))
  refine ev_iload_n (pc := 0) dX5_aimOfMast_0 rfl ?_
  have hT_1 := hb
  refine ev_cut (pj := 19) (Lj := [some (.ref (cw_z g + 53)), some (.int x1), some (.int x2)]) (stj := [(.int (qs0m1_X5_aimOfMast_53 n I A J t x1 x2))]) (σj := hp g I A J t) ?_ (fun hJ_1 => ?_)
  rotate_left
  · refine ev_if_ge (pc := 1) (tgt := 8) dX5_aimOfMast_1 (by decide) (fun c_1 => ?_) (fun c_1 => ?_)
    · have hb := hT_1 c_1
      refine ev_aload_n (pc := 8) dX5_aimOfMast_8 rfl ?_
      refine tv_getr (pc := 9) (d := 58) dX5_aimOfMast_9 fl_X5_24 (by decide) rfl rfl ?_
      refine ev_iload_n (pc := 12) dX5_aimOfMast_12 rfl ?_
      refine ev_bipush (pc := 13) (v := 6) dX5_aimOfMast_13 (by decide) ?_
      refine ev_imul (pc := 15) dX5_aimOfMast_15 ?_
      refine ev_iload_n (pc := 16) dX5_aimOfMast_16 rfl ?_
      refine ev_iadd (pc := 17) dX5_aimOfMast_17 ?_
      refine ev_iald (pc := 18) dX5_aimOfMast_18 (by decide) rfl hb ?_
      simp only [qs0m1_X5_aimOfMast_53, if_pos c_1] at hJ_1
      exact ev_loc hJ_1 cw_le0
    · refine ev_iconst (pc := 4) (v := (-1)) dX5_aimOfMast_4 (by decide) ?_
      refine ev_goto (pc := 5) (tgt := 19) dX5_aimOfMast_5 (by decide) ?_
      simp only [qs0m1_X5_aimOfMast_53, if_neg c_1] at hJ_1
      exact ev_loc hJ_1 cw_le0
  exact ev_iret (pc := 19) dX5_aimOfMast_19 rfl (by decide) (by decide) (hQ _ _ ⟨rfl, rfl⟩)

def pb_X5_mastIn_53 (n : Nat) (I : Nat → Nat → Int32) (A : Nat → Nat → Int32) (J : Nat → Nat → Int64) (t : Bool × Bool) (x1 : Int32) (x2 : Int32) : Prop := vp_in ((x1 * 10) + x2) 240
def px_X5_mastIn_53 (n : Nat) (I : Nat → Nat → Int32) (A : Nat → Nat → Int32) (J : Nat → Nat → Int64) (t : Bool × Bool) (x1 : Int32) (x2 : Int32) : Int32 := (A 54 (((x1 * 10) + x2)).toNatClampNeg)
set_option maxRecDepth 100000 in
set_option maxHeartbeats 4000000 in
theorem cv_X5_mastIn_53 (g : cw_G) (n : Nat) (I : Nat → Nat → Int32) (A : Nat → Nat → Int32) (J : Nat → Nat → Int64) (t : Bool × Bool) (x1 : Int32) (x2 : Int32) (hb : pb_X5_mastIn_53 n I A J t x1 x2) : Cd g mX5_mastIn [(.ref (cw_z g + 53)), (.int x1), (.int x2)] (hp g I A J t) (some (.int (px_X5_mastIn_53 n I A J t x1 x2))) (hp g I A J t) := by
  unfold pb_X5_mastIn_53 at hb
  unfold px_X5_mastIn_53
  refine Cd.of rfl (Nat.le_of_ble_eq_true rfl) (ev_gen (fun Q hQ => ?_))
  refine ev_aload_n (pc := 0) dX5_mastIn_0 rfl ?_
  refine tv_getr (pc := 1) (d := 54) dX5_mastIn_1 fl_X5_9 (by decide) rfl rfl ?_
  refine ev_iload_n (pc := 4) dX5_mastIn_4 rfl ?_
  refine ev_bipush (pc := 5) (v := 10) dX5_mastIn_5 (by decide) ?_
  refine ev_imul (pc := 7) dX5_mastIn_7 ?_
  refine ev_iload_n (pc := 8) dX5_mastIn_8 rfl ?_
  refine ev_iadd (pc := 9) dX5_mastIn_9 ?_
  refine ev_iald (pc := 10) dX5_mastIn_10 (by decide) rfl hb ?_
  exact ev_iret (pc := 11) dX5_mastIn_11 rfl (by decide) (by decide) (hQ _ _ ⟨rfl, rfl⟩)

def pb_X5_bandIn_53 (n : Nat) (I : Nat → Nat → Int32) (A : Nat → Nat → Int32) (J : Nat → Nat → Int64) (t : Bool × Bool) (x1 : Int32) (x2 : Int32) : Prop := vp_in ((x1 * 10) + x2) 240
def px_X5_bandIn_53 (n : Nat) (I : Nat → Nat → Int32) (A : Nat → Nat → Int32) (J : Nat → Nat → Int64) (t : Bool × Bool) (x1 : Int32) (x2 : Int32) : Int32 := (A 55 (((x1 * 10) + x2)).toNatClampNeg)
set_option maxRecDepth 100000 in
set_option maxHeartbeats 4000000 in
theorem cv_X5_bandIn_53 (g : cw_G) (n : Nat) (I : Nat → Nat → Int32) (A : Nat → Nat → Int32) (J : Nat → Nat → Int64) (t : Bool × Bool) (x1 : Int32) (x2 : Int32) (hb : pb_X5_bandIn_53 n I A J t x1 x2) : Cd g mX5_bandIn [(.ref (cw_z g + 53)), (.int x1), (.int x2)] (hp g I A J t) (some (.int (px_X5_bandIn_53 n I A J t x1 x2))) (hp g I A J t) := by
  unfold pb_X5_bandIn_53 at hb
  unfold px_X5_bandIn_53
  refine Cd.of rfl (Nat.le_of_ble_eq_true rfl) (ev_gen (fun Q hQ => ?_))
  refine ev_aload_n (pc := 0) dX5_bandIn_0 rfl ?_
  refine tv_getr (pc := 1) (d := 55) dX5_bandIn_1 fl_X5_15 (by decide) rfl rfl ?_
  refine ev_iload_n (pc := 4) dX5_bandIn_4 rfl ?_
  refine ev_bipush (pc := 5) (v := 10) dX5_bandIn_5 (by decide) ?_
  refine ev_imul (pc := 7) dX5_bandIn_7 ?_
  refine ev_iload_n (pc := 8) dX5_bandIn_8 rfl ?_
  refine ev_iadd (pc := 9) dX5_bandIn_9 ?_
  refine ev_iald (pc := 10) dX5_bandIn_10 (by decide) rfl hb ?_
  exact ev_iret (pc := 11) dX5_bandIn_11 rfl (by decide) (by decide) (hQ _ _ ⟨rfl, rfl⟩)

def pb_X5_aimIn_53 (n : Nat) (I : Nat → Nat → Int32) (A : Nat → Nat → Int32) (J : Nat → Nat → Int64) (t : Bool × Bool) (x1 : Int32) (x2 : Int32) : Prop := vp_in ((x1 * 10) + x2) 240
def px_X5_aimIn_53 (n : Nat) (I : Nat → Nat → Int32) (A : Nat → Nat → Int32) (J : Nat → Nat → Int64) (t : Bool × Bool) (x1 : Int32) (x2 : Int32) : Int32 := (A 56 (((x1 * 10) + x2)).toNatClampNeg)
set_option maxRecDepth 100000 in
set_option maxHeartbeats 4000000 in
theorem cv_X5_aimIn_53 (g : cw_G) (n : Nat) (I : Nat → Nat → Int32) (A : Nat → Nat → Int32) (J : Nat → Nat → Int64) (t : Bool × Bool) (x1 : Int32) (x2 : Int32) (hb : pb_X5_aimIn_53 n I A J t x1 x2) : Cd g mX5_aimIn [(.ref (cw_z g + 53)), (.int x1), (.int x2)] (hp g I A J t) (some (.int (px_X5_aimIn_53 n I A J t x1 x2))) (hp g I A J t) := by
  unfold pb_X5_aimIn_53 at hb
  unfold px_X5_aimIn_53
  refine Cd.of rfl (Nat.le_of_ble_eq_true rfl) (ev_gen (fun Q hQ => ?_))
  refine ev_aload_n (pc := 0) dX5_aimIn_0 rfl ?_
  refine tv_getr (pc := 1) (d := 56) dX5_aimIn_1 fl_X5_18 (by decide) rfl rfl ?_
  refine ev_iload_n (pc := 4) dX5_aimIn_4 rfl ?_
  refine ev_bipush (pc := 5) (v := 10) dX5_aimIn_5 (by decide) ?_
  refine ev_imul (pc := 7) dX5_aimIn_7 ?_
  refine ev_iload_n (pc := 8) dX5_aimIn_8 rfl ?_
  refine ev_iadd (pc := 9) dX5_aimIn_9 ?_
  refine ev_iald (pc := 10) dX5_aimIn_10 (by decide) rfl hb ?_
  exact ev_iret (pc := 11) dX5_aimIn_11 rfl (by decide) (by decide) (hQ _ _ ⟨rfl, rfl⟩)

def pb_X5_strengthIn_53 (n : Nat) (I : Nat → Nat → Int32) (A : Nat → Nat → Int32) (J : Nat → Nat → Int64) (t : Bool × Bool) (x1 : Int32) (x2 : Int32) : Prop := vp_in ((x1 * 10) + x2) 240
def px_X5_strengthIn_53 (n : Nat) (I : Nat → Nat → Int32) (A : Nat → Nat → Int32) (J : Nat → Nat → Int64) (t : Bool × Bool) (x1 : Int32) (x2 : Int32) : Int32 := (A 57 (((x1 * 10) + x2)).toNatClampNeg)
set_option maxRecDepth 100000 in
set_option maxHeartbeats 4000000 in
theorem cv_X5_strengthIn_53 (g : cw_G) (n : Nat) (I : Nat → Nat → Int32) (A : Nat → Nat → Int32) (J : Nat → Nat → Int64) (t : Bool × Bool) (x1 : Int32) (x2 : Int32) (hb : pb_X5_strengthIn_53 n I A J t x1 x2) : Cd g mX5_strengthIn [(.ref (cw_z g + 53)), (.int x1), (.int x2)] (hp g I A J t) (some (.int (px_X5_strengthIn_53 n I A J t x1 x2))) (hp g I A J t) := by
  unfold pb_X5_strengthIn_53 at hb
  unfold px_X5_strengthIn_53
  refine Cd.of rfl (Nat.le_of_ble_eq_true rfl) (ev_gen (fun Q hQ => ?_))
  refine ev_aload_n (pc := 0) dX5_strengthIn_0 rfl ?_
  refine tv_getr (pc := 1) (d := 57) dX5_strengthIn_1 fl_X5_21 (by decide) rfl rfl ?_
  refine ev_iload_n (pc := 4) dX5_strengthIn_4 rfl ?_
  refine ev_bipush (pc := 5) (v := 10) dX5_strengthIn_5 (by decide) ?_
  refine ev_imul (pc := 7) dX5_strengthIn_7 ?_
  refine ev_iload_n (pc := 8) dX5_strengthIn_8 rfl ?_
  refine ev_iadd (pc := 9) dX5_strengthIn_9 ?_
  refine ev_iald (pc := 10) dX5_strengthIn_10 (by decide) rfl hb ?_
  exact ev_iret (pc := 11) dX5_strengthIn_11 rfl (by decide) (by decide) (hQ _ _ ⟨rfl, rfl⟩)
