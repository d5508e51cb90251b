def qI2_X12_expression_68 (n : Nat) (I : Nat → Nat → Int32) (A : Nat → Nat → Int32) (J : Nat → Nat → Int64) (t : Bool × Bool) : Nat → Nat → Int32 := cw_u I 68 34 0
def q9_X12_expression_68 (n : Nat) (I : Nat → Nat → Int32) (A : Nat → Nat → Int32) (J : Nat → Nat → Int64) (t : Bool × Bool) : Int32 := ((qI2_X12_expression_68 n I A J t) 68 12)
def qs0m124_X12_expression_68 (n : Nat) (I : Nat → Nat → Int32) (A : Nat → Nat → Int32) (J : Nat → Nat → Int64) (t : Bool × Bool) (I12 : Nat → Nat → Int32) (A12 : Nat → Nat → Int32) (v12_2 : Int32) : Int32 := if 34 < (A12 71 ((I12 68 11)).toNatClampNeg) then 0 else 1
def qs0m110_X12_expression_68 (n : Nat) (I : Nat → Nat → Int32) (A : Nat → Nat → Int32) (J : Nat → Nat → Int64) (t : Bool × Bool) (I12 : Nat → Nat → Int32) (A12 : Nat → Nat → Int32) (v12_2 : Int32) : Int32 := if (A12 71 ((I12 68 11)).toNatClampNeg) < 27 then 0 else (qs0m124_X12_expression_68 n I A J t I12 A12 v12_2)
def qIm142_X12_expression_68 (n : Nat) (I : Nat → Nat → Int32) (A : Nat → Nat → Int32) (J : Nat → Nat → Int64) (t : Bool × Bool) (I12 : Nat → Nat → Int32) (A12 : Nat → Nat → Int32) (v12_2 : Int32) : Nat → Nat → Int32 := if (qs0m110_X12_expression_68 n I A J t I12 A12 v12_2) = 0 then (pI_X12_fail_68 n I12 A12 J t 1) else I12
def qIm138_X12_expression_68 (n : Nat) (I : Nat → Nat → Int32) (A : Nat → Nat → Int32) (J : Nat → Nat → Int64) (t : Bool × Bool) (I12 : Nat → Nat → Int32) (A12 : Nat → Nat → Int32) (v12_2 : Int32) : Nat → Nat → Int32 := if (px_X12_is_68 n I12 A12 J t 2) = 0 then (qIm142_X12_expression_68 n I A J t I12 A12 v12_2) else I12
def qIm159_X12_expression_68 (n : Nat) (I : Nat → Nat → Int32) (A : Nat → Nat → Int32) (J : Nat → Nat → Int64) (t : Bool × Bool) (I12 : Nat → Nat → Int32) (A12 : Nat → Nat → Int32) (v12_2 : Int32) : Nat → Nat → Int32 := if (qs0m110_X12_expression_68 n I A J t I12 A12 v12_2) = 0 then (pI_X12_emit_68 n (qIm138_X12_expression_68 n I A J t I12 A12 v12_2) A12 J t 0 (A12 73 (((qIm138_X12_expression_68 n I A J t I12 A12 v12_2) 68 11)).toNatClampNeg)) else (pI_X12_emit_68 n (qIm138_X12_expression_68 n I A J t I12 A12 v12_2) A12 J t 1 ((A12 71 (((qIm138_X12_expression_68 n I A J t I12 A12 v12_2) 68 11)).toNatClampNeg) - 27))
def qAm159_X12_expression_68 (n : Nat) (I : Nat → Nat → Int32) (A : Nat → Nat → Int32) (J : Nat → Nat → Int64) (t : Bool × Bool) (I12 : Nat → Nat → Int32) (A12 : Nat → Nat → Int32) (v12_2 : Int32) : Nat → Nat → Int32 := if (qs0m110_X12_expression_68 n I A J t I12 A12 v12_2) = 0 then (pA_X12_emit_68 n (qIm138_X12_expression_68 n I A J t I12 A12 v12_2) A12 J t 0 (A12 73 (((qIm138_X12_expression_68 n I A J t I12 A12 v12_2) 68 11)).toNatClampNeg)) else (pA_X12_emit_68 n (qIm138_X12_expression_68 n I A J t I12 A12 v12_2) A12 J t 1 ((A12 71 (((qIm138_X12_expression_68 n I A J t I12 A12 v12_2) 68 11)).toNatClampNeg) - 27))
def qI229_X12_expression_68 (n : Nat) (I : Nat → Nat → Int32) (A : Nat → Nat → Int32) (J : Nat → Nat → Int64) (t : Bool × Bool) (I12 : Nat → Nat → Int32) (A12 : Nat → Nat → Int32) (v12_2 : Int32) (I200 : Nat → Nat → Int32) (A200 : Nat → Nat → Int32) : Nat → Nat → Int32 := cw_u (pI_X12_comesOut_68 n I200 A200 J t 0) 68 34 (((pI_X12_comesOut_68 n I200 A200 J t 0) 68 34) - 1)
def qI239_X12_expression_68 (n : Nat) (I : Nat → Nat → Int32) (A : Nat → Nat → Int32) (J : Nat → Nat → Int64) (t : Bool × Bool) (I12 : Nat → Nat → Int32) (A12 : Nat → Nat → Int32) (v12_2 : Int32) (I200 : Nat → Nat → Int32) (A200 : Nat → Nat → Int32) : Nat → Nat → Int32 := cw_u (qI229_X12_expression_68 n I A J t I12 A12 v12_2 I200 A200) 68 12 (((qI229_X12_expression_68 n I A J t I12 A12 v12_2 I200 A200) 68 12) - 1)
def lp_X12_expression_68_200 (n : Nat) (I : Nat → Nat → Int32) (A : Nat → Nat → Int32) (J : Nat → Nat → Int64) (t : Bool × Bool) (I12 : Nat → Nat → Int32) (A12 : Nat → Nat → Int32) (v12_2 : Int32) : Nat → (Nat → Nat → Int32) → (Nat → Nat → Int32) → (Nat → Nat → Int32) × (Nat → Nat → Int32)
  | 0, I200, A200 => (I200, A200)
  | f + 1, I200, A200 => if (px_X12_is_68 n I200 A200 J t 7) = 0 then (I200, A200) else if (I200 68 12) ≤ (q9_X12_expression_68 n I A J t) then (I200, A200) else lp_X12_expression_68_200 n I A J t I12 A12 v12_2 f (pI_X12_next_68 n (qI239_X12_expression_68 n I A J t I12 A12 v12_2 I200 A200) (pA_X12_comesOut_68 n I200 A200 J t 0) J t ) (pA_X12_comesOut_68 n I200 A200 J t 0)
def lb_X12_expression_68_200 (n : Nat) (I : Nat → Nat → Int32) (A : Nat → Nat → Int32) (J : Nat → Nat → Int64) (t : Bool × Bool) (I12 : Nat → Nat → Int32) (A12 : Nat → Nat → Int32) (v12_2 : Int32) : Nat → (Nat → Nat → Int32) → (Nat → Nat → Int32) → Prop
  | 0, _, _ => False
  | f + 1, I200, A200 => pb_X12_is_68 n I200 A200 J t 7 ∧ (¬ (px_X12_is_68 n I200 A200 J t 7) = 0 → (¬ (I200 68 12) ≤ (q9_X12_expression_68 n I A J t) → pb_X12_comesOut_68 n I200 A200 J t 0 ∧ pb_X12_next_68 n (qI239_X12_expression_68 n I A J t I12 A12 v12_2 I200 A200) (pA_X12_comesOut_68 n I200 A200 J t 0) J t  ∧ lb_X12_expression_68_200 n I A J t I12 A12 v12_2 f (pI_X12_next_68 n (qI239_X12_expression_68 n I A J t I12 A12 v12_2 I200 A200) (pA_X12_comesOut_68 n I200 A200 J t 0) J t ) (pA_X12_comesOut_68 n I200 A200 J t 0)))
def qIw200_X12_expression_68 (n : Nat) (I : Nat → Nat → Int32) (A : Nat → Nat → Int32) (J : Nat → Nat → Int64) (t : Bool × Bool) (I12 : Nat → Nat → Int32) (A12 : Nat → Nat → Int32) (v12_2 : Int32) : Nat → Nat → Int32 := (lp_X12_expression_68_200 n I A J t I12 A12 v12_2 n (pI_X12_next_68 n (qIm159_X12_expression_68 n I A J t I12 A12 v12_2) (qAm159_X12_expression_68 n I A J t I12 A12 v12_2) J t ) (qAm159_X12_expression_68 n I A J t I12 A12 v12_2)).1
def qAw200_X12_expression_68 (n : Nat) (I : Nat → Nat → Int32) (A : Nat → Nat → Int32) (J : Nat → Nat → Int64) (t : Bool × Bool) (I12 : Nat → Nat → Int32) (A12 : Nat → Nat → Int32) (v12_2 : Int32) : Nat → Nat → Int32 := (lp_X12_expression_68_200 n I A J t I12 A12 v12_2 n (pI_X12_next_68 n (qIm159_X12_expression_68 n I A J t I12 A12 v12_2) (qAm159_X12_expression_68 n I A J t I12 A12 v12_2) J t ) (qAm159_X12_expression_68 n I A J t I12 A12 v12_2)).2
def qs0m273_X12_expression_68 (n : Nat) (I : Nat → Nat → Int32) (A : Nat → Nat → Int32) (J : Nat → Nat → Int64) (t : Bool × Bool) (I12 : Nat → Nat → Int32) (A12 : Nat → Nat → Int32) (v12_2 : Int32) : Int32 := if (px_X12_is_68 n (qIw200_X12_expression_68 n I A J t I12 A12 v12_2) (qAw200_X12_expression_68 n I A J t I12 A12 v12_2) J t 10) = 0 then 0 else 1
def qs0m264_X12_expression_68 (n : Nat) (I : Nat → Nat → Int32) (A : Nat → Nat → Int32) (J : Nat → Nat → Int64) (t : Bool × Bool) (I12 : Nat → Nat → Int32) (A12 : Nat → Nat → Int32) (v12_2 : Int32) : Int32 := if (px_X12_is_68 n (qIw200_X12_expression_68 n I A J t I12 A12 v12_2) (qAw200_X12_expression_68 n I A J t I12 A12 v12_2) J t 9) = 0 then (qs0m273_X12_expression_68 n I A J t I12 A12 v12_2) else 1
def qs0m255_X12_expression_68 (n : Nat) (I : Nat → Nat → Int32) (A : Nat → Nat → Int32) (J : Nat → Nat → Int64) (t : Bool × Bool) (I12 : Nat → Nat → Int32) (A12 : Nat → Nat → Int32) (v12_2 : Int32) : Int32 := if (px_X12_is_68 n (qIw200_X12_expression_68 n I A J t I12 A12 v12_2) (qAw200_X12_expression_68 n I A J t I12 A12 v12_2) J t 8) = 0 then (qs0m264_X12_expression_68 n I A J t I12 A12 v12_2) else 1
def q314_X12_expression_68 (n : Nat) (I : Nat → Nat → Int32) (A : Nat → Nat → Int32) (J : Nat → Nat → Int64) (t : Bool × Bool) (I12 : Nat → Nat → Int32) (A12 : Nat → Nat → Int32) (v12_2 : Int32) : Int32 := ((qAw200_X12_expression_68 n I A J t I12 A12 v12_2) 71 (((qIw200_X12_expression_68 n I A J t I12 A12 v12_2) 68 11)).toNatClampNeg)
def qs1m321_X12_expression_68 (n : Nat) (I : Nat → Nat → Int32) (A : Nat → Nat → Int32) (J : Nat → Nat → Int64) (t : Bool × Bool) (I12 : Nat → Nat → Int32) (A12 : Nat → Nat → Int32) (v12_2 : Int32) : Int32 := if (q314_X12_expression_68 n I A J t I12 A12 v12_2) = 10 then 1 else 0
def qA342_X12_expression_68 (n : Nat) (I : Nat → Nat → Int32) (A : Nat → Nat → Int32) (J : Nat → Nat → Int64) (t : Bool × Bool) (I12 : Nat → Nat → Int32) (A12 : Nat → Nat → Int32) (v12_2 : Int32) : Nat → Nat → Int32 := cw_u (pA_X12_comesOut_68 n (qIw200_X12_expression_68 n I A J t I12 A12 v12_2) (qAw200_X12_expression_68 n I A J t I12 A12 v12_2) J t (qs1m321_X12_expression_68 n I A J t I12 A12 v12_2)) 88 (((pI_X12_comesOut_68 n (qIw200_X12_expression_68 n I A J t I12 A12 v12_2) (qAw200_X12_expression_68 n I A J t I12 A12 v12_2) J t (qs1m321_X12_expression_68 n I A J t I12 A12 v12_2)) 68 34)).toNatClampNeg (q314_X12_expression_68 n I A J t I12 A12 v12_2)
def qI350_X12_expression_68 (n : Nat) (I : Nat → Nat → Int32) (A : Nat → Nat → Int32) (J : Nat → Nat → Int64) (t : Bool × Bool) (I12 : Nat → Nat → Int32) (A12 : Nat → Nat → Int32) (v12_2 : Int32) : Nat → Nat → Int32 := cw_u (pI_X12_comesOut_68 n (qIw200_X12_expression_68 n I A J t I12 A12 v12_2) (qAw200_X12_expression_68 n I A J t I12 A12 v12_2) J t (qs1m321_X12_expression_68 n I A J t I12 A12 v12_2)) 68 34 (((pI_X12_comesOut_68 n (qIw200_X12_expression_68 n I A J t I12 A12 v12_2) (qAw200_X12_expression_68 n I A J t I12 A12 v12_2) J t (qs1m321_X12_expression_68 n I A J t I12 A12 v12_2)) 68 34) + 1)
def qIm291_X12_expression_68 (n : Nat) (I : Nat → Nat → Int32) (A : Nat → Nat → Int32) (J : Nat → Nat → Int64) (t : Bool × Bool) (I12 : Nat → Nat → Int32) (A12 : Nat → Nat → Int32) (v12_2 : Int32) : Nat → Nat → Int32 := if ((qIw200_X12_expression_68 n I A J t I12 A12 v12_2) 68 12) ≤ (q9_X12_expression_68 n I A J t) then (qIw200_X12_expression_68 n I A J t I12 A12 v12_2) else (pI_X12_fail_68 n (qIw200_X12_expression_68 n I A J t I12 A12 v12_2) (qAw200_X12_expression_68 n I A J t I12 A12 v12_2) J t 1)
def qIm38_X12_expression_68 (n : Nat) (I : Nat → Nat → Int32) (A : Nat → Nat → Int32) (J : Nat → Nat → Int64) (t : Bool × Bool) (I12 : Nat → Nat → Int32) (A12 : Nat → Nat → Int32) (v12_2 : Int32) : Nat → Nat → Int32 := if (I12 68 12) = 6 then (pI_X12_fail_68 n I12 A12 J t 2) else I12
def qI61_X12_expression_68 (n : Nat) (I : Nat → Nat → Int32) (A : Nat → Nat → Int32) (J : Nat → Nat → Int64) (t : Bool × Bool) (I12 : Nat → Nat → Int32) (A12 : Nat → Nat → Int32) (v12_2 : Int32) : Nat → Nat → Int32 := cw_u (qIm38_X12_expression_68 n I A J t I12 A12 v12_2) 68 12 (((qIm38_X12_expression_68 n I A J t I12 A12 v12_2) 68 12) + 1)
def qA78_X12_expression_68 (n : Nat) (I : Nat → Nat → Int32) (A : Nat → Nat → Int32) (J : Nat → Nat → Int64) (t : Bool × Bool) (I12 : Nat → Nat → Int32) (A12 : Nat → Nat → Int32) (v12_2 : Int32) : Nat → Nat → Int32 := cw_u A12 88 (((pI_X12_next_68 n (qI61_X12_expression_68 n I A J t I12 A12 v12_2) A12 J t ) 68 34)).toNatClampNeg 6
def qI86_X12_expression_68 (n : Nat) (I : Nat → Nat → Int32) (A : Nat → Nat → Int32) (J : Nat → Nat → Int64) (t : Bool × Bool) (I12 : Nat → Nat → Int32) (A12 : Nat → Nat → Int32) (v12_2 : Int32) : Nat → Nat → Int32 := cw_u (pI_X12_next_68 n (qI61_X12_expression_68 n I A J t I12 A12 v12_2) A12 J t ) 68 34 (((pI_X12_next_68 n (qI61_X12_expression_68 n I A J t I12 A12 v12_2) A12 J t ) 68 34) + 1)
def lp_X12_expression_68_12 (n : Nat) (I : Nat → Nat → Int32) (A : Nat → Nat → Int32) (J : Nat → Nat → Int64) (t : Bool × Bool) : Nat → (Nat → Nat → Int32) → (Nat → Nat → Int32) → (Int32) → (Nat → Nat → Int32) × (Nat → Nat → Int32)
  | 0, I12, A12, v12_2 => (I12, A12)
  | f + 1, I12, A12, v12_2 => if v12_2 = 0 then (I12, A12) else if (I12 68 13) = 0 then if (px_X12_is_68 n I12 A12 J t 6) = 0 then if ((qIm138_X12_expression_68 n I A J t I12 A12 v12_2) 68 13) ≤ 0 then if (qs0m255_X12_expression_68 n I A J t I12 A12 v12_2) = 0 then ((pI_X12_comesOut_68 n (qIm291_X12_expression_68 n I A J t I12 A12 v12_2) (qAw200_X12_expression_68 n I A J t I12 A12 v12_2) J t 0), (pA_X12_comesOut_68 n (qIm291_X12_expression_68 n I A J t I12 A12 v12_2) (qAw200_X12_expression_68 n I A J t I12 A12 v12_2) J t 0)) else lp_X12_expression_68_12 n I A J t f (pI_X12_next_68 n (qI350_X12_expression_68 n I A J t I12 A12 v12_2) (qA342_X12_expression_68 n I A J t I12 A12 v12_2) J t ) (qA342_X12_expression_68 n I A J t I12 A12 v12_2) (qs0m255_X12_expression_68 n I A J t I12 A12 v12_2) else ((qIm138_X12_expression_68 n I A J t I12 A12 v12_2), A12) else if ((qIm38_X12_expression_68 n I A J t I12 A12 v12_2) 68 13) ≤ 0 then lp_X12_expression_68_12 n I A J t f (qI86_X12_expression_68 n I A J t I12 A12 v12_2) (qA78_X12_expression_68 n I A J t I12 A12 v12_2) v12_2 else ((qIm38_X12_expression_68 n I A J t I12 A12 v12_2), A12) else (I12, A12)
def lb_X12_expression_68_12 (n : Nat) (I : Nat → Nat → Int32) (A : Nat → Nat → Int32) (J : Nat → Nat → Int64) (t : Bool × Bool) : Nat → (Nat → Nat → Int32) → (Nat → Nat → Int32) → (Int32) → Prop
  | 0, _, _, _ => False
  | f + 1, I12, A12, v12_2 => (¬ v12_2 = 0 → ((I12 68 13) = 0 → pb_X12_is_68 n I12 A12 J t 6 ∧ ((px_X12_is_68 n I12 A12 J t 6) = 0 → vp_in (I12 68 11) 403 ∧ (¬ (A12 71 ((I12 68 11)).toNatClampNeg) < 27 → vp_in (I12 68 11) 403) ∧ pb_X12_is_68 n I12 A12 J t 2 ∧ ((px_X12_is_68 n I12 A12 J t 2) = 0 → ((qs0m110_X12_expression_68 n I A J t I12 A12 v12_2) = 0 → pb_X12_fail_68 n I12 A12 J t 1)) ∧ (((qIm138_X12_expression_68 n I A J t I12 A12 v12_2) 68 13) ≤ 0 → ((qs0m110_X12_expression_68 n I A J t I12 A12 v12_2) = 0 → vp_in ((qIm138_X12_expression_68 n I A J t I12 A12 v12_2) 68 11) 403 ∧ pb_X12_emit_68 n (qIm138_X12_expression_68 n I A J t I12 A12 v12_2) A12 J t 0 (A12 73 (((qIm138_X12_expression_68 n I A J t I12 A12 v12_2) 68 11)).toNatClampNeg)) ∧ (¬ (qs0m110_X12_expression_68 n I A J t I12 A12 v12_2) = 0 → vp_in ((qIm138_X12_expression_68 n I A J t I12 A12 v12_2) 68 11) 403 ∧ pb_X12_emit_68 n (qIm138_X12_expression_68 n I A J t I12 A12 v12_2) A12 J t 1 ((A12 71 (((qIm138_X12_expression_68 n I A J t I12 A12 v12_2) 68 11)).toNatClampNeg) - 27)) ∧ pb_X12_next_68 n (qIm159_X12_expression_68 n I A J t I12 A12 v12_2) (qAm159_X12_expression_68 n I A J t I12 A12 v12_2) J t  ∧ lb_X12_expression_68_200 n I A J t I12 A12 v12_2 n (pI_X12_next_68 n (qIm159_X12_expression_68 n I A J t I12 A12 v12_2) (qAm159_X12_expression_68 n I A J t I12 A12 v12_2) J t ) (qAm159_X12_expression_68 n I A J t I12 A12 v12_2) ∧ pb_X12_is_68 n (qIw200_X12_expression_68 n I A J t I12 A12 v12_2) (qAw200_X12_expression_68 n I A J t I12 A12 v12_2) J t 8 ∧ ((px_X12_is_68 n (qIw200_X12_expression_68 n I A J t I12 A12 v12_2) (qAw200_X12_expression_68 n I A J t I12 A12 v12_2) J t 8) = 0 → pb_X12_is_68 n (qIw200_X12_expression_68 n I A J t I12 A12 v12_2) (qAw200_X12_expression_68 n I A J t I12 A12 v12_2) J t 9 ∧ ((px_X12_is_68 n (qIw200_X12_expression_68 n I A J t I12 A12 v12_2) (qAw200_X12_expression_68 n I A J t I12 A12 v12_2) J t 9) = 0 → pb_X12_is_68 n (qIw200_X12_expression_68 n I A J t I12 A12 v12_2) (qAw200_X12_expression_68 n I A J t I12 A12 v12_2) J t 10)) ∧ (¬ (qs0m255_X12_expression_68 n I A J t I12 A12 v12_2) = 0 → vp_in ((qIw200_X12_expression_68 n I A J t I12 A12 v12_2) 68 11) 403 ∧ pb_X12_comesOut_68 n (qIw200_X12_expression_68 n I A J t I12 A12 v12_2) (qAw200_X12_expression_68 n I A J t I12 A12 v12_2) J t (qs1m321_X12_expression_68 n I A J t I12 A12 v12_2) ∧ vp_in ((pI_X12_comesOut_68 n (qIw200_X12_expression_68 n I A J t I12 A12 v12_2) (qAw200_X12_expression_68 n I A J t I12 A12 v12_2) J t (qs1m321_X12_expression_68 n I A J t I12 A12 v12_2)) 68 34) 48 ∧ pb_X12_next_68 n (qI350_X12_expression_68 n I A J t I12 A12 v12_2) (qA342_X12_expression_68 n I A J t I12 A12 v12_2) J t  ∧ lb_X12_expression_68_12 n I A J t f (pI_X12_next_68 n (qI350_X12_expression_68 n I A J t I12 A12 v12_2) (qA342_X12_expression_68 n I A J t I12 A12 v12_2) J t ) (qA342_X12_expression_68 n I A J t I12 A12 v12_2) (qs0m255_X12_expression_68 n I A J t I12 A12 v12_2)) ∧ ((qs0m255_X12_expression_68 n I A J t I12 A12 v12_2) = 0 → (¬ ((qIw200_X12_expression_68 n I A J t I12 A12 v12_2) 68 12) ≤ (q9_X12_expression_68 n I A J t) → pb_X12_fail_68 n (qIw200_X12_expression_68 n I A J t I12 A12 v12_2) (qAw200_X12_expression_68 n I A J t I12 A12 v12_2) J t 1) ∧ pb_X12_comesOut_68 n (qIm291_X12_expression_68 n I A J t I12 A12 v12_2) (qAw200_X12_expression_68 n I A J t I12 A12 v12_2) J t 0))) ∧ (¬ (px_X12_is_68 n I12 A12 J t 6) = 0 → ((I12 68 12) = 6 → pb_X12_fail_68 n I12 A12 J t 2) ∧ (((qIm38_X12_expression_68 n I A J t I12 A12 v12_2) 68 13) ≤ 0 → pb_X12_next_68 n (qI61_X12_expression_68 n I A J t I12 A12 v12_2) A12 J t  ∧ vp_in ((pI_X12_next_68 n (qI61_X12_expression_68 n I A J t I12 A12 v12_2) A12 J t ) 68 34) 48 ∧ lb_X12_expression_68_12 n I A J t f (qI86_X12_expression_68 n I A J t I12 A12 v12_2) (qA78_X12_expression_68 n I A J t I12 A12 v12_2) v12_2))))
def pb_X12_expression_68 (n : Nat) (I : Nat → Nat → Int32) (A : Nat → Nat → Int32) (J : Nat → Nat → Int64) (t : Bool × Bool) : Prop := lb_X12_expression_68_12 n I A J t n (qI2_X12_expression_68 n I A J t) A 1
def pI_X12_expression_68 (n : Nat) (I : Nat → Nat → Int32) (A : Nat → Nat → Int32) (J : Nat → Nat → Int64) (t : Bool × Bool) : Nat → Nat → Int32 := (lp_X12_expression_68_12 n I A J t n (qI2_X12_expression_68 n I A J t) A 1).1
def pA_X12_expression_68 (n : Nat) (I : Nat → Nat → Int32) (A : Nat → Nat → Int32) (J : Nat → Nat → Int64) (t : Bool × Bool) : Nat → Nat → Int32 := (lp_X12_expression_68_12 n I A J t n (qI2_X12_expression_68 n I A J t) A 1).2
set_option maxRecDepth 100000 in
set_option maxHeartbeats 4000000 in
theorem lt_X12_expression_68_200 (g : cw_G) (n : Nat) (I : Nat → Nat → Int32) (A : Nat → Nat → Int32) (J : Nat → Nat → Int64) (t : Bool × Bool) (I12 : Nat → Nat → Int32) (A12 : Nat → Nat → Int32) (v12_2 : Int32) {Q : Option Value → cw_H → Prop} : ∀ (f : Nat) (I200 : Nat → Nat → Int32) (A200 : Nat → Nat → Int32) (w0 : Nat → Nat → Int32) (w1 : Nat → Nat → Int32), lb_X12_expression_68_200 n I A J t I12 A12 v12_2 f I200 A200 → (lp_X12_expression_68_200 n I A J t I12 A12 v12_2 f I200 A200).1 = w0 → (lp_X12_expression_68_200 n I A J t I12 A12 v12_2 f I200 A200).2 = w1 → Ev g mX12_expression 0 0 249 [some (.ref (cw_z g + 68)), some (.int (q9_X12_expression_68 n I A J t)), some (.int v12_2), some (.int (qs0m110_X12_expression_68 n I A J t I12 A12 v12_2)), none] [] (hp g w0 w1 J t) Q → Ev g mX12_expression 0 0 200 [some (.ref (cw_z g + 68)), some (.int (q9_X12_expression_68 n I A J t)), some (.int v12_2), some (.int (qs0m110_X12_expression_68 n I A J t I12 A12 v12_2)), none] [] (hp g I200 A200 J t) Q := by
  intro f
  induction f with
  | zero =>
    intro I200 A200 w0 w1 hb
    exact hb.elim
  | succ f ih =>
    intro I200 A200 w0 w1 hb h0 h1 hE
    rw [lb_X12_expression_68_200] at hb
    rw [lp_X12_expression_68_200] at h0 h1
    refine ev_aload_n (pc := 200) dX12_expression_200 rfl ?_
    refine ev_bipush (pc := 201) (v := 7) dX12_expression_201 (by decide) ?_
    refine ev_Vi (pc := 203) dX12_expression_203 lk_X12_233 cd_X12_is ar_X12_is ⟨by decide, rfl, rfl⟩ (cv_X12_is_68 g n I200 A200 J t 7 hb.1) (show 68 < 120 by decide) rfl rfl rfl rfl (Nat.le_of_ble_eq_true rfl) ⟨by decide, by decide⟩ ?_
    replace hb := hb.2
    have hF_206 := hb
    refine ev_if_eq (pc := 206) (tgt := 249) dX12_expression_206 (by decide) (fun c_206 => ?_) (fun c_206 => ?_)
    · try simp only [if_pos c_206] at h0
      try simp only [if_pos c_206] at h1
      subst h0
      subst h1
      exact ev_loc hE cw_le0
    · have hb := hF_206 c_206
      try simp only [if_neg c_206] at h0
      try simp only [if_neg c_206] at h1
      refine ev_aload_n (pc := 209) dX12_expression_209 rfl ?_
      refine tv_geti (pc := 210) dX12_expression_210 fl_X12_242 (by decide) rfl rfl ?_
      refine ev_iload_n (pc := 213) dX12_expression_213 rfl ?_
      have hF_214 := hb
      refine ev_icmp_le (pc := 214) (tgt := 249) dX12_expression_214 (by decide) (fun c_214 => ?_) (fun c_214 => ?_)
      · try simp only [if_pos c_214] at h0
        try simp only [if_pos c_214] at h1
        subst h0
        subst h1
        exact ev_loc hE cw_le0
      · have hb := hF_214 c_214
        try simp only [if_neg c_214] at h0
        try simp only [if_neg c_214] at h1
        refine ev_aload_n (pc := 217) dX12_expression_217 rfl ?_
        refine ev_iconst (pc := 218) (v := 0) dX12_expression_218 (by decide) ?_
        refine ev_Vv (pc := 219) dX12_expression_219 lk_X12_276 cd_X12_comesOut ar_X12_comesOut ⟨by decide, rfl, rfl⟩ (cv_X12_comesOut_68 g n I200 A200 J t 0 hb.1) (show 68 < 120 by decide) rfl rfl rfl rfl (Nat.le_of_ble_eq_true rfl) ⟨by decide, by decide⟩ ?_
        replace hb := hb.2
        refine ev_aload_n (pc := 222) dX12_expression_222 rfl ?_
        refine ev_dup (pc := 223) dX12_expression_223 rfl ?_
        refine tv_geti (pc := 224) dX12_expression_224 fl_X12_270 (by decide) rfl rfl ?_
        refine ev_iconst (pc := 227) (v := 1) dX12_expression_227 (by decide) ?_
        refine ev_isub (pc := 228) dX12_expression_228 ?_
        refine tw_puti (pc := 229) (I2 := (qI229_X12_expression_68 n I A J t I12 A12 v12_2 I200 A200)) dX12_expression_229 fp_X12_270 (by decide) rfl rfl rfl ?_
        refine ev_aload_n (pc := 232) dX12_expression_232 rfl ?_
        refine ev_dup (pc := 233) dX12_expression_233 rfl ?_
        refine tv_geti (pc := 234) dX12_expression_234 fl_X12_242 (by decide) rfl rfl ?_
        refine ev_iconst (pc := 237) (v := 1) dX12_expression_237 (by decide) ?_
        refine ev_isub (pc := 238) dX12_expression_238 ?_
        refine tw_puti (pc := 239) (I2 := (qI239_X12_expression_68 n I A J t I12 A12 v12_2 I200 A200)) dX12_expression_239 fp_X12_242 (by decide) rfl rfl rfl ?_
        refine ev_aload_n (pc := 242) dX12_expression_242 rfl ?_
        refine ev_Vv (pc := 243) dX12_expression_243 lk_X12_236 cd_X12_next ar_X12_next ⟨by decide, rfl, rfl⟩ (cv_X12_next_68 g n (qI239_X12_expression_68 n I A J t I12 A12 v12_2 I200 A200) (pA_X12_comesOut_68 n I200 A200 J t 0) J t  hb.1) (show 68 < 120 by decide) rfl rfl rfl rfl (Nat.le_of_ble_eq_true rfl) ⟨by decide, by decide⟩ ?_
        replace hb := hb.2
        refine ev_goto (pc := 246) (tgt := 200) dX12_expression_246 (by decide) ?_
        exact ev_loc (ih (pI_X12_next_68 n (qI239_X12_expression_68 n I A J t I12 A12 v12_2 I200 A200) (pA_X12_comesOut_68 n I200 A200 J t 0) J t ) (pA_X12_comesOut_68 n I200 A200 J t 0) w0 w1 hb h0 h1 hE) cw_le0

set_option maxRecDepth 100000 in
set_option maxHeartbeats 4000000 in
theorem lt_X12_expression_68_12 (g : cw_G) (n : Nat) (I : Nat → Nat → Int32) (A : Nat → Nat → Int32) (J : Nat → Nat → Int64) (t : Bool × Bool) : ∀ (f : Nat) (I12 : Nat → Nat → Int32) (A12 : Nat → Nat → Int32) (v12_2 : Int32), lb_X12_expression_68_12 n I A J t f I12 A12 v12_2 → Ev g mX12_expression 0 0 12 [some (.ref (cw_z g + 68)), some (.int (q9_X12_expression_68 n I A J t)), some (.int v12_2), none, none] [] (hp g I12 A12 J t) (fun r2 τ2 => r2 = none ∧ τ2 = (hp g (lp_X12_expression_68_12 n I A J t f I12 A12 v12_2).1 (lp_X12_expression_68_12 n I A J t f I12 A12 v12_2).2 J t)) := by
  intro f
  induction f with
  | zero =>
    intro I12 A12 v12_2 hb
    exact hb.elim
  | succ f ih =>
    intro I12 A12 v12_2 hb
    rw [lb_X12_expression_68_12] at hb
    refine ev_gen (fun Q hQ => ?_)
    rw [lp_X12_expression_68_12] at hQ
    refine ev_iload_n (pc := 12) dX12_expression_12 rfl ?_
    have hF_13 := hb
    refine ev_if_eq (pc := 13) (tgt := 360) dX12_expression_13 (by decide) (fun c_13 => ?_) (fun c_13 => ?_)
    · try simp only [if_pos c_13] at hQ
      exact ev_vret (pc := 360) dX12_expression_360 rfl (by decide) (by decide) (hQ _ _ ⟨rfl, rfl⟩)
    · have hb := hF_13 c_13
      try simp only [if_neg c_13] at hQ
      refine ev_aload_n (pc := 16) dX12_expression_16 rfl ?_
      refine tv_geti (pc := 17) dX12_expression_17 fl_X12_215 (by decide) rfl rfl ?_
      have hF_20 := hb
      refine ev_if_ne (pc := 20) (tgt := 360) dX12_expression_20 (by decide) (fun c_20 => ?_) (fun c_20 => ?_)
      · try simp only [if_neg c_20] at hQ
        exact ev_vret (pc := 360) dX12_expression_360 rfl (by decide) (by decide) (hQ _ _ ⟨rfl, rfl⟩)
      · have hb := hF_20 c_20
        try simp only [if_pos c_20] at hQ
        refine ev_aload_n (pc := 23) dX12_expression_23 rfl ?_
        refine ev_bipush (pc := 24) (v := 6) dX12_expression_24 (by decide) ?_
        refine ev_Vi (pc := 26) dX12_expression_26 lk_X12_233 cd_X12_is ar_X12_is ⟨by decide, rfl, rfl⟩ (cv_X12_is_68 g n I12 A12 J t 6 hb.1) (show 68 < 120 by decide) rfl rfl rfl rfl (Nat.le_of_ble_eq_true rfl) ⟨by decide, by decide⟩ ?_
        replace hb := hb.2
        obtain ⟨hT_29, hF_29⟩ := hb
        refine ev_if_eq (pc := 29) (tgt := 92) dX12_expression_29 (by decide) (fun c_29 => ?_) (fun c_29 => ?_)
        · have hb := hT_29 c_29
          try simp only [if_pos c_29] at hQ
          refine ev_aload_n (pc := 92) dX12_expression_92 rfl ?_
          refine tv_geti (pc := 93) dX12_expression_93 fl_X12_215 (by decide) rfl rfl ?_
          refine ev_if_ne (pc := 96) (tgt := 131) dX12_expression_96 (by decide) (fun c_96 => absurd c_20 c_96) (fun c_96 => ?_)
          refine ev_aload_n (pc := 99) dX12_expression_99 rfl ?_
          refine tv_getr (pc := 100) (d := 71) dX12_expression_100 fl_X12_20 (by decide) rfl rfl ?_
          refine ev_aload_n (pc := 103) dX12_expression_103 rfl ?_
          refine tv_geti (pc := 104) dX12_expression_104 fl_X12_218 (by decide) rfl rfl ?_
          refine ev_iald (pc := 107) dX12_expression_107 (by decide) rfl hb.1 ?_
          replace hb := hb.2
          refine ev_bipush (pc := 108) (v := 27) dX12_expression_108 (by decide) ?_
          obtain ⟨hF_110, hb⟩ := hb
          refine ev_cut (pj := 132) (Lj := [some (.ref (cw_z g + 68)), some (.int (q9_X12_expression_68 n I A J t)), some (.int v12_2), none, none]) (stj := [(.int (qs0m110_X12_expression_68 n I A J t I12 A12 v12_2))]) (σj := hp g I12 A12 J t) ?_ (fun hJ_110 => ?_)
          rotate_left
          · refine ev_icmp_lt (pc := 110) (tgt := 131) dX12_expression_110 (by decide) (fun c_110 => ?_) (fun c_110 => ?_)
            · refine ev_iconst (pc := 131) (v := 0) dX12_expression_131 (by decide) ?_
              simp only [qs0m110_X12_expression_68, if_pos c_110] at hJ_110
              exact ev_loc hJ_110 cw_le0
            · have hb := hF_110 c_110
              refine ev_aload_n (pc := 113) dX12_expression_113 rfl ?_
              refine tv_getr (pc := 114) (d := 71) dX12_expression_114 fl_X12_20 (by decide) rfl rfl ?_
              refine ev_aload_n (pc := 117) dX12_expression_117 rfl ?_
              refine tv_geti (pc := 118) dX12_expression_118 fl_X12_218 (by decide) rfl rfl ?_
              refine ev_iald (pc := 121) dX12_expression_121 (by decide) rfl hb ?_
              refine ev_bipush (pc := 122) (v := 34) dX12_expression_122 (by decide) ?_
              refine ev_cut (pj := 132) (Lj := [some (.ref (cw_z g + 68)), some (.int (q9_X12_expression_68 n I A J t)), some (.int v12_2), none, none]) (stj := [(.int (qs0m124_X12_expression_68 n I A J t I12 A12 v12_2))]) (σj := hp g I12 A12 J t) ?_ (fun hJ_124 => ?_)
              rotate_left
              · refine ev_icmp_gt (pc := 124) (tgt := 131) dX12_expression_124 (by decide) (fun c_124 => ?_) (fun c_124 => ?_)
                · refine ev_iconst (pc := 131) (v := 0) dX12_expression_131 (by decide) ?_
                  simp only [qs0m124_X12_expression_68, if_pos c_124] at hJ_124
                  exact ev_loc hJ_124 cw_le0
                · refine ev_iconst (pc := 127) (v := 1) dX12_expression_127 (by decide) ?_
                  refine ev_goto (pc := 128) (tgt := 132) dX12_expression_128 (by decide) ?_
                  simp only [qs0m124_X12_expression_68, if_neg c_124] at hJ_124
                  exact ev_loc hJ_124 cw_le0
              simp only [qs0m110_X12_expression_68, if_neg c_110] at hJ_110
              exact ev_loc hJ_110 cw_le0
          refine ev_istore_3 (pc := 132) dX12_expression_132 (by decide) rfl ?_
          refine ev_aload_n (pc := 133) dX12_expression_133 rfl ?_
          refine ev_iconst (pc := 134) (v := 2) dX12_expression_134 (by decide) ?_
          refine ev_Vi (pc := 135) dX12_expression_135 lk_X12_233 cd_X12_is ar_X12_is ⟨by decide, rfl, rfl⟩ (cv_X12_is_68 g n I12 A12 J t 2 hb.1) (show 68 < 120 by decide) rfl rfl rfl rfl (Nat.le_of_ble_eq_true rfl) ⟨by decide, by decide⟩ ?_
          replace hb := hb.2
          obtain ⟨hF_138, hb⟩ := hb
          refine ev_cut (pj := 150) (Lj := [some (.ref (cw_z g + 68)), some (.int (q9_X12_expression_68 n I A J t)), some (.int v12_2), some (.int (qs0m110_X12_expression_68 n I A J t I12 A12 v12_2)), none]) (stj := []) (σj := hp g (qIm138_X12_expression_68 n I A J t I12 A12 v12_2) A12 J t) ?_ (fun hJ_138 => ?_)
          rotate_left
          · refine ev_if_ne (pc := 138) (tgt := 150) dX12_expression_138 (by decide) (fun c_138 => ?_) (fun c_138 => ?_)
            · simp only [qIm138_X12_expression_68, if_neg c_138] at hJ_138
              exact ev_loc hJ_138 cw_le0
            · have hb := hF_138 c_138
              refine ev_iload_n (pc := 141) dX12_expression_141 rfl ?_
              have hF_142 := hb
              refine ev_cut (pj := 150) (Lj := [some (.ref (cw_z g + 68)), some (.int (q9_X12_expression_68 n I A J t)), some (.int v12_2), some (.int (qs0m110_X12_expression_68 n I A J t I12 A12 v12_2)), none]) (stj := []) (σj := hp g (qIm142_X12_expression_68 n I A J t I12 A12 v12_2) A12 J t) ?_ (fun hJ_142 => ?_)
              rotate_left
              · refine ev_if_ne (pc := 142) (tgt := 150) dX12_expression_142 (by decide) (fun c_142 => ?_) (fun c_142 => ?_)
                · simp only [qIm142_X12_expression_68, if_neg c_142] at hJ_142
                  exact ev_loc hJ_142 cw_le0
                · have hb := hF_142 c_142
                  refine ev_aload_n (pc := 145) dX12_expression_145 rfl ?_
                  refine ev_iconst (pc := 146) (v := 1) dX12_expression_146 (by decide) ?_
                  refine ev_Vv (pc := 147) dX12_expression_147 lk_X12_230 cd_X12_fail ar_X12_fail ⟨by decide, rfl, rfl⟩ (cv_X12_fail_68 g n I12 A12 J t 1 hb) (show 68 < 120 by decide) rfl rfl rfl rfl (Nat.le_of_ble_eq_true rfl) ⟨by decide, by decide⟩ ?_
                  simp only [qIm142_X12_expression_68, if_pos c_142] at hJ_142
                  exact ev_loc hJ_142 cw_le0
              simp only [qIm138_X12_expression_68, if_pos c_138] at hJ_138
              exact ev_loc hJ_138 cw_le0
          refine ev_aload_n (pc := 150) dX12_expression_150 rfl ?_
          refine tv_geti (pc := 151) dX12_expression_151 fl_X12_215 (by decide) rfl rfl ?_
          have hT_154 := hb
          refine ev_if_le (pc := 154) (tgt := 158) dX12_expression_154 (by decide) (fun c_154 => ?_) (fun c_154 => ?_)
          · have hb := hT_154 c_154
            try simp only [if_pos c_154] at hQ
            refine ev_iload_n (pc := 158) dX12_expression_158 rfl ?_
            obtain ⟨hT_159, hF_159, hb⟩ := hb
            refine ev_cut (pj := 196) (Lj := [some (.ref (cw_z g + 68)), some (.int (q9_X12_expression_68 n I A J t)), some (.int v12_2), some (.int (qs0m110_X12_expression_68 n I A J t I12 A12 v12_2)), none]) (stj := []) (σj := hp g (qIm159_X12_expression_68 n I A J t I12 A12 v12_2) (qAm159_X12_expression_68 n I A J t I12 A12 v12_2) J t) ?_ (fun hJ_159 => ?_)
            rotate_left
            · refine ev_if_eq (pc := 159) (tgt := 182) dX12_expression_159 (by decide) (fun c_159 => ?_) (fun c_159 => ?_)
              · have hb := hT_159 c_159
                refine ev_aload_n (pc := 182) dX12_expression_182 rfl ?_
                refine ev_iconst (pc := 183) (v := 0) dX12_expression_183 (by decide) ?_
                refine ev_aload_n (pc := 184) dX12_expression_184 rfl ?_
                refine tv_getr (pc := 185) (d := 73) dX12_expression_185 fl_X12_27 (by decide) rfl rfl ?_
                refine ev_aload_n (pc := 188) dX12_expression_188 rfl ?_
                refine tv_geti (pc := 189) dX12_expression_189 fl_X12_218 (by decide) rfl rfl ?_
                refine ev_iald (pc := 192) dX12_expression_192 (by decide) rfl hb.1 ?_
                replace hb := hb.2
                refine ev_Vv (pc := 193) dX12_expression_193 lk_X12_273 cd_X12_emit ar_X12_emit ⟨by decide, rfl, rfl⟩ (cv_X12_emit_68 g n (qIm138_X12_expression_68 n I A J t I12 A12 v12_2) A12 J t 0 (A12 73 (((qIm138_X12_expression_68 n I A J t I12 A12 v12_2) 68 11)).toNatClampNeg) hb) (show 68 < 120 by decide) rfl rfl rfl rfl (Nat.le_of_ble_eq_true rfl) ⟨by decide, by decide⟩ ?_
                simp only [qIm159_X12_expression_68, qAm159_X12_expression_68, if_pos c_159] at hJ_159
                exact ev_loc hJ_159 cw_le0
              · have hb := hF_159 c_159
                refine ev_aload_n (pc := 162) dX12_expression_162 rfl ?_
                refine ev_iconst (pc := 163) (v := 1) dX12_expression_163 (by decide) ?_
                refine ev_aload_n (pc := 164) dX12_expression_164 rfl ?_
                refine tv_getr (pc := 165) (d := 71) dX12_expression_165 fl_X12_20 (by decide) rfl rfl ?_
                refine ev_aload_n (pc := 168) dX12_expression_168 rfl ?_
                refine tv_geti (pc := 169) dX12_expression_169 fl_X12_218 (by decide) rfl rfl ?_
                refine ev_iald (pc := 172) dX12_expression_172 (by decide) rfl hb.1 ?_
                replace hb := hb.2
                refine ev_bipush (pc := 173) (v := 27) dX12_expression_173 (by decide) ?_
                refine ev_isub (pc := 175) dX12_expression_175 ?_
                refine ev_Vv (pc := 176) dX12_expression_176 lk_X12_273 cd_X12_emit ar_X12_emit ⟨by decide, rfl, rfl⟩ (cv_X12_emit_68 g n (qIm138_X12_expression_68 n I A J t I12 A12 v12_2) A12 J t 1 ((A12 71 (((qIm138_X12_expression_68 n I A J t I12 A12 v12_2) 68 11)).toNatClampNeg) - 27) hb) (show 68 < 120 by decide) rfl rfl rfl rfl (Nat.le_of_ble_eq_true rfl) ⟨by decide, by decide⟩ ?_
                refine ev_goto (pc := 179) (tgt := 196) dX12_expression_179 (by decide) ?_
                simp only [qIm159_X12_expression_68, qAm159_X12_expression_68, if_neg c_159] at hJ_159
                exact ev_loc hJ_159 cw_le0
            refine ev_aload_n (pc := 196) dX12_expression_196 rfl ?_
            refine ev_Vv (pc := 197) dX12_expression_197 lk_X12_236 cd_X12_next ar_X12_next ⟨by decide, rfl, rfl⟩ (cv_X12_next_68 g n (qIm159_X12_expression_68 n I A J t I12 A12 v12_2) (qAm159_X12_expression_68 n I A J t I12 A12 v12_2) J t  hb.1) (show 68 < 120 by decide) rfl rfl rfl rfl (Nat.le_of_ble_eq_true rfl) ⟨by decide, by decide⟩ ?_
            replace hb := hb.2
            refine lt_X12_expression_68_200 g n I A J t I12 A12 v12_2 n (pI_X12_next_68 n (qIm159_X12_expression_68 n I A J t I12 A12 v12_2) (qAm159_X12_expression_68 n I A J t I12 A12 v12_2) J t ) (qAm159_X12_expression_68 n I A J t I12 A12 v12_2) (qIw200_X12_expression_68 n I A J t I12 A12 v12_2) (qAw200_X12_expression_68 n I A J t I12 A12 v12_2) hb.1 rfl rfl ?_
            replace hb := hb.2
            refine ev_aload_n (pc := 249) dX12_expression_249 rfl ?_
            refine ev_bipush (pc := 250) (v := 8) dX12_expression_250 (by decide) ?_
            refine ev_Vi (pc := 252) dX12_expression_252 lk_X12_233 cd_X12_is ar_X12_is ⟨by decide, rfl, rfl⟩ (cv_X12_is_68 g n (qIw200_X12_expression_68 n I A J t I12 A12 v12_2) (qAw200_X12_expression_68 n I A J t I12 A12 v12_2) J t 8 hb.1) (show 68 < 120 by decide) rfl rfl rfl rfl (Nat.le_of_ble_eq_true rfl) ⟨by decide, by decide⟩ ?_
            replace hb := hb.2
            obtain ⟨hF_255, hb⟩ := hb
            refine ev_cut (pj := 281) (Lj := [some (.ref (cw_z g + 68)), some (.int (q9_X12_expression_68 n I A J t)), some (.int v12_2), some (.int (qs0m110_X12_expression_68 n I A J t I12 A12 v12_2)), none]) (stj := [(.int (qs0m255_X12_expression_68 n I A J t I12 A12 v12_2))]) (σj := hp g (qIw200_X12_expression_68 n I A J t I12 A12 v12_2) (qAw200_X12_expression_68 n I A J t I12 A12 v12_2) J t) ?_ (fun hJ_255 => ?_)
            rotate_left
            · refine ev_if_ne (pc := 255) (tgt := 276) dX12_expression_255 (by decide) (fun c_255 => ?_) (fun c_255 => ?_)
              · refine ev_iconst (pc := 276) (v := 1) dX12_expression_276 (by decide) ?_
                refine ev_goto (pc := 277) (tgt := 281) dX12_expression_277 (by decide) ?_
                simp only [qs0m255_X12_expression_68, if_neg c_255] at hJ_255
                exact ev_loc hJ_255 cw_le0
              · have hb := hF_255 c_255
                refine ev_aload_n (pc := 258) dX12_expression_258 rfl ?_
                refine ev_bipush (pc := 259) (v := 9) dX12_expression_259 (by decide) ?_
                refine ev_Vi (pc := 261) dX12_expression_261 lk_X12_233 cd_X12_is ar_X12_is ⟨by decide, rfl, rfl⟩ (cv_X12_is_68 g n (qIw200_X12_expression_68 n I A J t I12 A12 v12_2) (qAw200_X12_expression_68 n I A J t I12 A12 v12_2) J t 9 hb.1) (show 68 < 120 by decide) rfl rfl rfl rfl (Nat.le_of_ble_eq_true rfl) ⟨by decide, by decide⟩ ?_
                replace hb := hb.2
                have hF_264 := hb
                refine ev_cut (pj := 281) (Lj := [some (.ref (cw_z g + 68)), some (.int (q9_X12_expression_68 n I A J t)), some (.int v12_2), some (.int (qs0m110_X12_expression_68 n I A J t I12 A12 v12_2)), none]) (stj := [(.int (qs0m264_X12_expression_68 n I A J t I12 A12 v12_2))]) (σj := hp g (qIw200_X12_expression_68 n I A J t I12 A12 v12_2) (qAw200_X12_expression_68 n I A J t I12 A12 v12_2) J t) ?_ (fun hJ_264 => ?_)
                rotate_left
                · refine ev_if_ne (pc := 264) (tgt := 276) dX12_expression_264 (by decide) (fun c_264 => ?_) (fun c_264 => ?_)
                  · refine ev_iconst (pc := 276) (v := 1) dX12_expression_276 (by decide) ?_
                    refine ev_goto (pc := 277) (tgt := 281) dX12_expression_277 (by decide) ?_
                    simp only [qs0m264_X12_expression_68, if_neg c_264] at hJ_264
                    exact ev_loc hJ_264 cw_le0
                  · have hb := hF_264 c_264
                    refine ev_aload_n (pc := 267) dX12_expression_267 rfl ?_
                    refine ev_bipush (pc := 268) (v := 10) dX12_expression_268 (by decide) ?_
                    refine ev_Vi (pc := 270) dX12_expression_270 lk_X12_233 cd_X12_is ar_X12_is ⟨by decide, rfl, rfl⟩ (cv_X12_is_68 g n (qIw200_X12_expression_68 n I A J t I12 A12 v12_2) (qAw200_X12_expression_68 n I A J t I12 A12 v12_2) J t 10 hb) (show 68 < 120 by decide) rfl rfl rfl rfl (Nat.le_of_ble_eq_true rfl) ⟨by decide, by decide⟩ ?_
                    refine ev_cut (pj := 281) (Lj := [some (.ref (cw_z g + 68)), some (.int (q9_X12_expression_68 n I A J t)), some (.int v12_2), some (.int (qs0m110_X12_expression_68 n I A J t I12 A12 v12_2)), none]) (stj := [(.int (qs0m273_X12_expression_68 n I A J t I12 A12 v12_2))]) (σj := hp g (qIw200_X12_expression_68 n I A J t I12 A12 v12_2) (qAw200_X12_expression_68 n I A J t I12 A12 v12_2) J t) ?_ (fun hJ_273 => ?_)
                    rotate_left
                    · refine ev_if_eq (pc := 273) (tgt := 280) dX12_expression_273 (by decide) (fun c_273 => ?_) (fun c_273 => ?_)
                      · refine ev_iconst (pc := 280) (v := 0) dX12_expression_280 (by decide) ?_
                        simp only [qs0m273_X12_expression_68, if_pos c_273] at hJ_273
                        exact ev_loc hJ_273 cw_le0
                      · refine ev_iconst (pc := 276) (v := 1) dX12_expression_276 (by decide) ?_
                        refine ev_goto (pc := 277) (tgt := 281) dX12_expression_277 (by decide) ?_
                        simp only [qs0m273_X12_expression_68, if_neg c_273] at hJ_273
                        exact ev_loc hJ_273 cw_le0
                    simp only [qs0m264_X12_expression_68, if_pos c_264] at hJ_264
                    exact ev_loc hJ_264 cw_le0
                simp only [qs0m255_X12_expression_68, if_pos c_255] at hJ_255
                exact ev_loc hJ_255 cw_le0
            refine ev_istore_2 (pc := 281) dX12_expression_281 (by decide) rfl ?_
            refine ev_iload_n (pc := 282) dX12_expression_282 rfl ?_
            obtain ⟨hT_283, hF_283⟩ := hb
            refine ev_if_ne (pc := 283) (tgt := 305) dX12_expression_283 (by decide) (fun c_283 => ?_) (fun c_283 => ?_)
            · have hb := hT_283 c_283
              try simp only [if_neg c_283] at hQ
              refine ev_aload_n (pc := 305) dX12_expression_305 rfl ?_
              refine tv_getr (pc := 306) (d := 71) dX12_expression_306 fl_X12_20 (by decide) rfl rfl ?_
              refine ev_aload_n (pc := 309) dX12_expression_309 rfl ?_
              refine tv_geti (pc := 310) dX12_expression_310 fl_X12_218 (by decide) rfl rfl ?_
              refine ev_iald (pc := 313) dX12_expression_313 (by decide) rfl hb.1 ?_
              replace hb := hb.2
              refine ev_is (y := (q314_X12_expression_68 n I A J t I12 A12 v12_2)) rfl ?_
              refine ev_istore_4 (pc := 314) dX12_expression_314 (by decide) rfl ?_
              refine ev_aload_n (pc := 316) dX12_expression_316 rfl ?_
              refine ev_iload (pc := 317) dX12_expression_317 rfl ?_
              refine ev_bipush (pc := 319) (v := 10) dX12_expression_319 (by decide) ?_
              refine ev_cut (pj := 329) (Lj := [some (.ref (cw_z g + 68)), some (.int (q9_X12_expression_68 n I A J t)), some (.int (qs0m255_X12_expression_68 n I A J t I12 A12 v12_2)), some (.int (qs0m110_X12_expression_68 n I A J t I12 A12 v12_2)), some (.int (q314_X12_expression_68 n I A J t I12 A12 v12_2))]) (stj := [(.int (qs1m321_X12_expression_68 n I A J t I12 A12 v12_2)), (.ref (cw_z g + 68))]) (σj := hp g (qIw200_X12_expression_68 n I A J t I12 A12 v12_2) (qAw200_X12_expression_68 n I A J t I12 A12 v12_2) J t) ?_ (fun hJ_321 => ?_)
              rotate_left
              · refine ev_icmp_ne (pc := 321) (tgt := 328) dX12_expression_321 (by decide) (fun c_321 => ?_) (fun c_321 => ?_)
                · refine ev_iconst (pc := 328) (v := 0) dX12_expression_328 (by decide) ?_
                  simp only [qs1m321_X12_expression_68, if_neg c_321] at hJ_321
                  exact ev_loc hJ_321 cw_le0
                · refine ev_iconst (pc := 324) (v := 1) dX12_expression_324 (by decide) ?_
                  refine ev_goto (pc := 325) (tgt := 329) dX12_expression_325 (by decide) ?_
                  simp only [qs1m321_X12_expression_68, if_pos c_321] at hJ_321
                  exact ev_loc hJ_321 cw_le0
              refine ev_Vv (pc := 329) dX12_expression_329 lk_X12_276 cd_X12_comesOut ar_X12_comesOut ⟨by decide, rfl, rfl⟩ (cv_X12_comesOut_68 g n (qIw200_X12_expression_68 n I A J t I12 A12 v12_2) (qAw200_X12_expression_68 n I A J t I12 A12 v12_2) J t (qs1m321_X12_expression_68 n I A J t I12 A12 v12_2) hb.1) (show 68 < 120 by decide) rfl rfl rfl rfl (Nat.le_of_ble_eq_true rfl) ⟨by decide, by decide⟩ ?_
              replace hb := hb.2
              refine ev_aload_n (pc := 332) dX12_expression_332 rfl ?_
              refine tv_getr (pc := 333) (d := 88) dX12_expression_333 fl_X12_77 (by decide) rfl rfl ?_
              refine ev_aload_n (pc := 336) dX12_expression_336 rfl ?_
              refine tv_geti (pc := 337) dX12_expression_337 fl_X12_270 (by decide) rfl rfl ?_
              refine ev_iload (pc := 340) dX12_expression_340 rfl ?_
              refine tw_iast (pc := 342) (A2 := (qA342_X12_expression_68 n I A J t I12 A12 v12_2)) dX12_expression_342 (by decide) rfl hb.1 rfl ?_
              replace hb := hb.2
              refine ev_aload_n (pc := 343) dX12_expression_343 rfl ?_
              refine ev_dup (pc := 344) dX12_expression_344 rfl ?_
              refine tv_geti (pc := 345) dX12_expression_345 fl_X12_270 (by decide) rfl rfl ?_
              refine ev_iconst (pc := 348) (v := 1) dX12_expression_348 (by decide) ?_
              refine ev_iadd (pc := 349) dX12_expression_349 ?_
              refine tw_puti (pc := 350) (I2 := (qI350_X12_expression_68 n I A J t I12 A12 v12_2)) dX12_expression_350 fp_X12_270 (by decide) rfl rfl rfl ?_
              refine ev_aload_n (pc := 353) dX12_expression_353 rfl ?_
              refine ev_Vv (pc := 354) dX12_expression_354 lk_X12_236 cd_X12_next ar_X12_next ⟨by decide, rfl, rfl⟩ (cv_X12_next_68 g n (qI350_X12_expression_68 n I A J t I12 A12 v12_2) (qA342_X12_expression_68 n I A J t I12 A12 v12_2) J t  hb.1) (show 68 < 120 by decide) rfl rfl rfl rfl (Nat.le_of_ble_eq_true rfl) ⟨by decide, by decide⟩ ?_
              replace hb := hb.2
              refine ev_goto (pc := 357) (tgt := 12) dX12_expression_357 (by decide) ?_
              exact ev_mono (ev_loc (ih (pI_X12_next_68 n (qI350_X12_expression_68 n I A J t I12 A12 v12_2) (qA342_X12_expression_68 n I A J t I12 A12 v12_2) J t ) (qA342_X12_expression_68 n I A J t I12 A12 v12_2) (qs0m255_X12_expression_68 n I A J t I12 A12 v12_2) hb) (cw_leS (cw_leS (cw_leS (cw_leN (cw_leN cw_le0)))))) hQ
            · have hb := hF_283 c_283
              try simp only [if_pos c_283] at hQ
              refine ev_aload_n (pc := 286) dX12_expression_286 rfl ?_
              refine tv_geti (pc := 287) dX12_expression_287 fl_X12_242 (by decide) rfl rfl ?_
              refine ev_iload_n (pc := 290) dX12_expression_290 rfl ?_
              obtain ⟨hF_291, hb⟩ := hb
              refine ev_cut (pj := 299) (Lj := [some (.ref (cw_z g + 68)), some (.int (q9_X12_expression_68 n I A J t)), some (.int (qs0m255_X12_expression_68 n I A J t I12 A12 v12_2)), some (.int (qs0m110_X12_expression_68 n I A J t I12 A12 v12_2)), none]) (stj := []) (σj := hp g (qIm291_X12_expression_68 n I A J t I12 A12 v12_2) (qAw200_X12_expression_68 n I A J t I12 A12 v12_2) J t) ?_ (fun hJ_291 => ?_)
              rotate_left
              · refine ev_icmp_le (pc := 291) (tgt := 299) dX12_expression_291 (by decide) (fun c_291 => ?_) (fun c_291 => ?_)
                · simp only [qIm291_X12_expression_68, if_pos c_291] at hJ_291
                  exact ev_loc hJ_291 cw_le0
                · have hb := hF_291 c_291
                  refine ev_aload_n (pc := 294) dX12_expression_294 rfl ?_
                  refine ev_iconst (pc := 295) (v := 1) dX12_expression_295 (by decide) ?_
                  refine ev_Vv (pc := 296) dX12_expression_296 lk_X12_230 cd_X12_fail ar_X12_fail ⟨by decide, rfl, rfl⟩ (cv_X12_fail_68 g n (qIw200_X12_expression_68 n I A J t I12 A12 v12_2) (qAw200_X12_expression_68 n I A J t I12 A12 v12_2) J t 1 hb) (show 68 < 120 by decide) rfl rfl rfl rfl (Nat.le_of_ble_eq_true rfl) ⟨by decide, by decide⟩ ?_
                  simp only [qIm291_X12_expression_68, if_neg c_291] at hJ_291
                  exact ev_loc hJ_291 cw_le0
              refine ev_aload_n (pc := 299) dX12_expression_299 rfl ?_
              refine ev_iconst (pc := 300) (v := 0) dX12_expression_300 (by decide) ?_
              refine ev_Vv (pc := 301) dX12_expression_301 lk_X12_276 cd_X12_comesOut ar_X12_comesOut ⟨by decide, rfl, rfl⟩ (cv_X12_comesOut_68 g n (qIm291_X12_expression_68 n I A J t I12 A12 v12_2) (qAw200_X12_expression_68 n I A J t I12 A12 v12_2) J t 0 hb) (show 68 < 120 by decide) rfl rfl rfl rfl (Nat.le_of_ble_eq_true rfl) ⟨by decide, by decide⟩ ?_
              exact ev_vret (pc := 304) dX12_expression_304 rfl (by decide) (by decide) (hQ _ _ ⟨rfl, rfl⟩)
          · try simp only [if_neg c_154] at hQ
            exact ev_vret (pc := 157) dX12_expression_157 rfl (by decide) (by decide) (hQ _ _ ⟨rfl, rfl⟩)
        · have hb := hF_29 c_29
          try simp only [if_neg c_29] at hQ
          refine ev_aload_n (pc := 32) dX12_expression_32 rfl ?_
          refine tv_geti (pc := 33) dX12_expression_33 fl_X12_242 (by decide) rfl rfl ?_
          refine ev_bipush (pc := 36) (v := 6) dX12_expression_36 (by decide) ?_
          obtain ⟨hF_38, hb⟩ := hb
          refine ev_cut (pj := 46) (Lj := [some (.ref (cw_z g + 68)), some (.int (q9_X12_expression_68 n I A J t)), some (.int v12_2), none, none]) (stj := []) (σj := hp g (qIm38_X12_expression_68 n I A J t I12 A12 v12_2) A12 J t) ?_ (fun hJ_38 => ?_)
          rotate_left
          · refine ev_icmp_ne (pc := 38) (tgt := 46) dX12_expression_38 (by decide) (fun c_38 => ?_) (fun c_38 => ?_)
            · simp only [qIm38_X12_expression_68, if_neg c_38] at hJ_38
              exact ev_loc hJ_38 cw_le0
            · have hb := hF_38 c_38
              refine ev_aload_n (pc := 41) dX12_expression_41 rfl ?_
              refine ev_iconst (pc := 42) (v := 2) dX12_expression_42 (by decide) ?_
              refine ev_Vv (pc := 43) dX12_expression_43 lk_X12_230 cd_X12_fail ar_X12_fail ⟨by decide, rfl, rfl⟩ (cv_X12_fail_68 g n I12 A12 J t 2 hb) (show 68 < 120 by decide) rfl rfl rfl rfl (Nat.le_of_ble_eq_true rfl) ⟨by decide, by decide⟩ ?_
              simp only [qIm38_X12_expression_68, if_pos c_38] at hJ_38
              exact ev_loc hJ_38 cw_le0
          refine ev_aload_n (pc := 46) dX12_expression_46 rfl ?_
          refine tv_geti (pc := 47) dX12_expression_47 fl_X12_215 (by decide) rfl rfl ?_
          have hT_50 := hb
          refine ev_if_le (pc := 50) (tgt := 54) dX12_expression_50 (by decide) (fun c_50 => ?_) (fun c_50 => ?_)
          · have hb := hT_50 c_50
            try simp only [if_pos c_50] at hQ
            refine ev_aload_n (pc := 54) dX12_expression_54 rfl ?_
            refine ev_dup (pc := 55) dX12_expression_55 rfl ?_
            refine tv_geti (pc := 56) dX12_expression_56 fl_X12_242 (by decide) rfl rfl ?_
            refine ev_iconst (pc := 59) (v := 1) dX12_expression_59 (by decide) ?_
            refine ev_iadd (pc := 60) dX12_expression_60 ?_
            refine tw_puti (pc := 61) (I2 := (qI61_X12_expression_68 n I A J t I12 A12 v12_2)) dX12_expression_61 fp_X12_242 (by decide) rfl rfl rfl ?_
            refine ev_aload_n (pc := 64) dX12_expression_64 rfl ?_
            refine ev_Vv (pc := 65) dX12_expression_65 lk_X12_236 cd_X12_next ar_X12_next ⟨by decide, rfl, rfl⟩ (cv_X12_next_68 g n (qI61_X12_expression_68 n I A J t I12 A12 v12_2) A12 J t  hb.1) (show 68 < 120 by decide) rfl rfl rfl rfl (Nat.le_of_ble_eq_true rfl) ⟨by decide, by decide⟩ ?_
            replace hb := hb.2
            refine ev_aload_n (pc := 68) dX12_expression_68 rfl ?_
            refine tv_getr (pc := 69) (d := 88) dX12_expression_69 fl_X12_77 (by decide) rfl rfl ?_
            refine ev_aload_n (pc := 72) dX12_expression_72 rfl ?_
            refine tv_geti (pc := 73) dX12_expression_73 fl_X12_270 (by decide) rfl rfl ?_
            refine ev_bipush (pc := 76) (v := 6) dX12_expression_76 (by decide) ?_
            refine tw_iast (pc := 78) (A2 := (qA78_X12_expression_68 n I A J t I12 A12 v12_2)) dX12_expression_78 (by decide) rfl hb.1 rfl ?_
            replace hb := hb.2
            refine ev_aload_n (pc := 79) dX12_expression_79 rfl ?_
            refine ev_dup (pc := 80) dX12_expression_80 rfl ?_
            refine tv_geti (pc := 81) dX12_expression_81 fl_X12_270 (by decide) rfl rfl ?_
            refine ev_iconst (pc := 84) (v := 1) dX12_expression_84 (by decide) ?_
            refine ev_iadd (pc := 85) dX12_expression_85 ?_
            refine tw_puti (pc := 86) (I2 := (qI86_X12_expression_68 n I A J t I12 A12 v12_2)) dX12_expression_86 fp_X12_270 (by decide) rfl rfl rfl ?_
            refine ev_goto (pc := 89) (tgt := 12) dX12_expression_89 (by decide) ?_
            exact ev_mono (ev_loc (ih (qI86_X12_expression_68 n I A J t I12 A12 v12_2) (qA78_X12_expression_68 n I A J t I12 A12 v12_2) v12_2 hb) cw_le0) hQ
          · try simp only [if_neg c_50] at hQ
            exact ev_vret (pc := 53) dX12_expression_53 rfl (by decide) (by decide) (hQ _ _ ⟨rfl, rfl⟩)

set_option maxRecDepth 100000 in
set_option maxHeartbeats 4000000 in
theorem cv_X12_expression_68 (g : cw_G) (n : Nat) (I : Nat → Nat → Int32) (A : Nat → Nat → Int32) (J : Nat → Nat → Int64) (t : Bool × Bool) (hb : pb_X12_expression_68 n I A J t) : Cd g mX12_expression [(.ref (cw_z g + 68))] (hp g I A J t) none (hp g (pI_X12_expression_68 n I A J t) (pA_X12_expression_68 n I A J t) J t) := by
  unfold pb_X12_expression_68 at hb
  unfold pI_X12_expression_68 pA_X12_expression_68
  refine Cd.of rfl (Nat.le_of_ble_eq_true rfl) (ev_gen (fun Q hQ => ?_))
  refine ev_aload_n (pc := 0) dX12_expression_0 rfl ?_
  refine ev_iconst (pc := 1) (v := 0) dX12_expression_1 (by decide) ?_
  refine tw_puti (pc := 2) (I2 := (qI2_X12_expression_68 n I A J t)) dX12_expression_2 fp_X12_270 (by decide) rfl rfl rfl ?_
  refine ev_aload_n (pc := 5) dX12_expression_5 rfl ?_
  refine tv_geti (pc := 6) dX12_expression_6 fl_X12_242 (by decide) rfl rfl ?_
  refine ev_is (y := (q9_X12_expression_68 n I A J t)) rfl ?_
  refine ev_istore_1 (pc := 9) dX12_expression_9 (by decide) rfl ?_
  refine ev_iconst (pc := 10) (v := 1) dX12_expression_10 (by decide) ?_
  refine ev_istore_2 (pc := 11) dX12_expression_11 (by decide) rfl ?_
  exact ev_mono (ev_loc (lt_X12_expression_68_12 g n I A J t n (qI2_X12_expression_68 n I A J t) A 1 hb) cw_le0) hQ

def q4_X12_relation_68 (n : Nat) (I : Nat → Nat → Int32) (A : Nat → Nat → Int32) (J : Nat → Nat → Int64) (t : Bool × Bool) : Int32 := (I 68 30)
def qs0m13_X12_relation_68 (n : Nat) (I : Nat → Nat → Int32) (A : Nat → Nat → Int32) (J : Nat → Nat → Int64) (t : Bool × Bool) : Int32 := if ((pI_X12_expression_68 n I A J t ) 68 13) ≤ 0 then (((pA_X12_expression_68 n I A J t ) 71 (((pI_X12_expression_68 n I A J t ) 68 11)).toNatClampNeg) - 11) else 0
def qIm46_X12_relation_68 (n : Nat) (I : Nat → Nat → Int32) (A : Nat → Nat → Int32) (J : Nat → Nat → Int64) (t : Bool × Bool) : Nat → Nat → Int32 := if (qs0m13_X12_relation_68 n I A J t) ≤ 3 then (pI_X12_expression_68 n I A J t ) else (pI_X12_fail_68 n (pI_X12_expression_68 n I A J t ) (pA_X12_expression_68 n I A J t ) J t 1)
def qIm41_X12_relation_68 (n : Nat) (I : Nat → Nat → Int32) (A : Nat → Nat → Int32) (J : Nat → Nat → Int64) (t : Bool × Bool) : Nat → Nat → Int32 := if (qs0m13_X12_relation_68 n I A J t) < 0 then (pI_X12_fail_68 n (pI_X12_expression_68 n I A J t ) (pA_X12_expression_68 n I A J t ) J t 1) else (qIm46_X12_relation_68 n I A J t)
def qIm37_X12_relation_68 (n : Nat) (I : Nat → Nat → Int32) (A : Nat → Nat → Int32) (J : Nat → Nat → Int64) (t : Bool × Bool) : Nat → Nat → Int32 := if ((pI_X12_expression_68 n I A J t ) 68 13) = 0 then (qIm41_X12_relation_68 n I A J t) else (pI_X12_expression_68 n I A J t )
def q62_X12_relation_68 (n : Nat) (I : Nat → Nat → Int32) (A : Nat → Nat → Int32) (J : Nat → Nat → Int64) (t : Bool × Bool) : Int32 := ((pI_X12_next_68 n (qIm37_X12_relation_68 n I A J t) (pA_X12_expression_68 n I A J t ) J t ) 68 30)
def q93_X12_relation_68 (n : Nat) (I : Nat → Nat → Int32) (A : Nat → Nat → Int32) (J : Nat → Nat → Int64) (t : Bool × Bool) : Int32 := (((200 : Int32) * ((pI_X12_expression_68 n (pI_X12_next_68 n (qIm37_X12_relation_68 n I A J t) (pA_X12_expression_68 n I A J t ) J t ) (pA_X12_expression_68 n I A J t ) J t ) 68 19)) + ((pA_X12_expression_68 n (pI_X12_next_68 n (qIm37_X12_relation_68 n I A J t) (pA_X12_expression_68 n I A J t ) J t ) (pA_X12_expression_68 n I A J t ) J t ) 81 (((pI_X12_expression_68 n (pI_X12_next_68 n (qIm37_X12_relation_68 n I A J t) (pA_X12_expression_68 n I A J t ) J t ) (pA_X12_expression_68 n I A J t ) J t ) 68 19)).toNatClampNeg))
def qA102_X12_relation_68 (n : Nat) (I : Nat → Nat → Int32) (A : Nat → Nat → Int32) (J : Nat → Nat → Int64) (t : Bool × Bool) : Nat → Nat → Int32 := cw_u (pA_X12_expression_68 n (pI_X12_next_68 n (qIm37_X12_relation_68 n I A J t) (pA_X12_expression_68 n I A J t ) J t ) (pA_X12_expression_68 n I A J t ) J t ) 82 ((q93_X12_relation_68 n I A J t)).toNatClampNeg (qs0m13_X12_relation_68 n I A J t)
def qA110_X12_relation_68 (n : Nat) (I : Nat → Nat → Int32) (A : Nat → Nat → Int32) (J : Nat → Nat → Int64) (t : Bool × Bool) : Nat → Nat → Int32 := cw_u (qA102_X12_relation_68 n I A J t) 83 ((q93_X12_relation_68 n I A J t)).toNatClampNeg (q4_X12_relation_68 n I A J t)
def qA118_X12_relation_68 (n : Nat) (I : Nat → Nat → Int32) (A : Nat → Nat → Int32) (J : Nat → Nat → Int64) (t : Bool × Bool) : Nat → Nat → Int32 := cw_u (qA110_X12_relation_68 n I A J t) 84 ((q93_X12_relation_68 n I A J t)).toNatClampNeg (q62_X12_relation_68 n I A J t)
def qA129_X12_relation_68 (n : Nat) (I : Nat → Nat → Int32) (A : Nat → Nat → Int32) (J : Nat → Nat → Int64) (t : Bool × Bool) : Nat → Nat → Int32 := cw_u (qA118_X12_relation_68 n I A J t) 85 ((q93_X12_relation_68 n I A J t)).toNatClampNeg ((pI_X12_expression_68 n (pI_X12_next_68 n (qIm37_X12_relation_68 n I A J t) (pA_X12_expression_68 n I A J t ) J t ) (pA_X12_expression_68 n I A J t ) J t ) 68 30)
def qA142_X12_relation_68 (n : Nat) (I : Nat → Nat → Int32) (A : Nat → Nat → Int32) (J : Nat → Nat → Int64) (t : Bool × Bool) : Nat → Nat → Int32 := cw_u (qA129_X12_relation_68 n I A J t) 81 (((pI_X12_expression_68 n (pI_X12_next_68 n (qIm37_X12_relation_68 n I A J t) (pA_X12_expression_68 n I A J t ) J t ) (pA_X12_expression_68 n I A J t ) J t ) 68 19)).toNatClampNeg (((qA129_X12_relation_68 n I A J t) 81 (((pI_X12_expression_68 n (pI_X12_next_68 n (qIm37_X12_relation_68 n I A J t) (pA_X12_expression_68 n I A J t ) J t ) (pA_X12_expression_68 n I A J t ) J t ) 68 19)).toNatClampNeg) + 1)
def pb_X12_relation_68 (n : Nat) (I : Nat → Nat → Int32) (A : Nat → Nat → Int32) (J : Nat → Nat → Int64) (t : Bool × Bool) : Prop := pb_X12_expression_68 n I A J t  ∧ (((pI_X12_expression_68 n I A J t ) 68 13) ≤ 0 → vp_in ((pI_X12_expression_68 n I A J t ) 68 11) 403) ∧ (((pI_X12_expression_68 n I A J t ) 68 13) = 0 → ((qs0m13_X12_relation_68 n I A J t) < 0 → pb_X12_fail_68 n (pI_X12_expression_68 n I A J t ) (pA_X12_expression_68 n I A J t ) J t 1) ∧ (¬ (qs0m13_X12_relation_68 n I A J t) < 0 → (¬ (qs0m13_X12_relation_68 n I A J t) ≤ 3 → pb_X12_fail_68 n (pI_X12_expression_68 n I A J t ) (pA_X12_expression_68 n I A J t ) J t 1))) ∧ pb_X12_next_68 n (qIm37_X12_relation_68 n I A J t) (pA_X12_expression_68 n I A J t ) J t  ∧ pb_X12_expression_68 n (pI_X12_next_68 n (qIm37_X12_relation_68 n I A J t) (pA_X12_expression_68 n I A J t ) J t ) (pA_X12_expression_68 n I A J t ) J t  ∧ (((pI_X12_expression_68 n (pI_X12_next_68 n (qIm37_X12_relation_68 n I A J t) (pA_X12_expression_68 n I A J t ) J t ) (pA_X12_expression_68 n I A J t ) J t ) 68 13) ≤ 0 → vp_in ((pI_X12_expression_68 n (pI_X12_next_68 n (qIm37_X12_relation_68 n I A J t) (pA_X12_expression_68 n I A J t ) J t ) (pA_X12_expression_68 n I A J t ) J t ) 68 19) 2 ∧ vp_in (q93_X12_relation_68 n I A J t) 400 ∧ vp_in (q93_X12_relation_68 n I A J t) 400 ∧ vp_in (q93_X12_relation_68 n I A J t) 400 ∧ vp_in (q93_X12_relation_68 n I A J t) 400 ∧ vp_in ((pI_X12_expression_68 n (pI_X12_next_68 n (qIm37_X12_relation_68 n I A J t) (pA_X12_expression_68 n I A J t ) J t ) (pA_X12_expression_68 n I A J t ) J t ) 68 19) 2 ∧ vp_in ((pI_X12_expression_68 n (pI_X12_next_68 n (qIm37_X12_relation_68 n I A J t) (pA_X12_expression_68 n I A J t ) J t ) (pA_X12_expression_68 n I A J t ) J t ) 68 19) 2)
def pI_X12_relation_68 (n : Nat) (I : Nat → Nat → Int32) (A : Nat → Nat → Int32) (J : Nat → Nat → Int64) (t : Bool × Bool) : Nat → Nat → Int32 := (pI_X12_expression_68 n (pI_X12_next_68 n (qIm37_X12_relation_68 n I A J t) (pA_X12_expression_68 n I A J t ) J t ) (pA_X12_expression_68 n I A J t ) J t )
def pA_X12_relation_68 (n : Nat) (I : Nat → Nat → Int32) (A : Nat → Nat → Int32) (J : Nat → Nat → Int64) (t : Bool × Bool) : Nat → Nat → Int32 := (if ((pI_X12_expression_68 n (pI_X12_next_68 n (qIm37_X12_relation_68 n I A J t) (pA_X12_expression_68 n I A J t ) J t ) (pA_X12_expression_68 n I A J t ) J t ) 68 13) ≤ 0 then (qA142_X12_relation_68 n I A J t) else (pA_X12_expression_68 n (pI_X12_next_68 n (qIm37_X12_relation_68 n I A J t) (pA_X12_expression_68 n I A J t ) J t ) (pA_X12_expression_68 n I A J t ) J t ))
set_option maxRecDepth 100000 in
set_option maxHeartbeats 4000000 in
theorem cv_X12_relation_68 (g : cw_G) (n : Nat) (I : Nat → Nat → Int32) (A : Nat → Nat → Int32) (J : Nat → Nat → Int64) (t : Bool × Bool) (hb : pb_X12_relation_68 n I A J t) : Cd g mX12_relation [(.ref (cw_z g + 68))] (hp g I A J t) none (hp g (pI_X12_relation_68 n I A J t) (pA_X12_relation_68 n I A J t) J t) := by
  unfold pb_X12_relation_68 at hb
  unfold pI_X12_relation_68 pA_X12_relation_68
  refine Cd.of rfl (Nat.le_of_ble_eq_true rfl) (ev_gen (fun Q hQ => ?_))
  refine ev_aload_n (pc := 0) dX12_relation_0 rfl ?_
  refine tv_geti (pc := 1) dX12_relation_1 fl_X12_251 (by decide) rfl rfl ?_
  refine ev_is (y := (q4_X12_relation_68 n I A J t)) rfl ?_
  refine ev_istore_1 (pc := 4) dX12_relation_4 (by decide) rfl ?_
  refine ev_aload_n (pc := 5) dX12_relation_5 rfl ?_
  refine ev_Vv (pc := 6) dX12_relation_6 lk_X12_267 cd_X12_expression ar_X12_expression ⟨by decide, rfl, rfl⟩ (cv_X12_expression_68 g n I A J t  hb.1) (show 68 < 120 by decide) rfl rfl rfl rfl (Nat.le_of_ble_eq_true rfl) ⟨by decide, by decide⟩ ?_
  replace hb := hb.2
  refine ev_aload_n (pc := 9) dX12_relation_9 rfl ?_
  refine tv_geti (pc := 10) dX12_relation_10 fl_X12_215 (by decide) rfl rfl ?_
  obtain ⟨hT_13, hb⟩ := hb
  refine ev_cut (pj := 32) (Lj := [some (.ref (cw_z g + 68)), some (.int (q4_X12_relation_68 n I A J t)), none, none, none]) (stj := [(.int (qs0m13_X12_relation_68 n I A J t))]) (σj := hp g (pI_X12_expression_68 n I A J t ) (pA_X12_expression_68 n I A J t ) J t) ?_ (fun hJ_13 => ?_)
  rotate_left
  · refine ev_if_le (pc := 13) (tgt := 20) dX12_relation_13 (by decide) (fun c_13 => ?_) (fun c_13 => ?_)
    · have hb := hT_13 c_13
      refine ev_aload_n (pc := 20) dX12_relation_20 rfl ?_
      refine tv_getr (pc := 21) (d := 71) dX12_relation_21 fl_X12_20 (by decide) rfl rfl ?_
      refine ev_aload_n (pc := 24) dX12_relation_24 rfl ?_
      refine tv_geti (pc := 25) dX12_relation_25 fl_X12_218 (by decide) rfl rfl ?_
      refine ev_iald (pc := 28) dX12_relation_28 (by decide) rfl hb ?_
      refine ev_bipush (pc := 29) (v := 11) dX12_relation_29 (by decide) ?_
      refine ev_isub (pc := 31) dX12_relation_31 ?_
      simp only [qs0m13_X12_relation_68, if_pos c_13] at hJ_13
      exact ev_loc hJ_13 cw_le0
    · refine ev_iconst (pc := 16) (v := 0) dX12_relation_16 (by decide) ?_
      refine ev_goto (pc := 17) (tgt := 32) dX12_relation_17 (by decide) ?_
      simp only [qs0m13_X12_relation_68, if_neg c_13] at hJ_13
      exact ev_loc hJ_13 cw_le0
  refine ev_istore_2 (pc := 32) dX12_relation_32 (by decide) rfl ?_
  refine ev_aload_n (pc := 33) dX12_relation_33 rfl ?_
  refine tv_geti (pc := 34) dX12_relation_34 fl_X12_215 (by decide) rfl rfl ?_
  obtain ⟨hF_37, hb⟩ := hb
  refine ev_cut (pj := 54) (Lj := [some (.ref (cw_z g + 68)), some (.int (q4_X12_relation_68 n I A J t)), some (.int (qs0m13_X12_relation_68 n I A J t)), none, none]) (stj := []) (σj := hp g (qIm37_X12_relation_68 n I A J t) (pA_X12_expression_68 n I A J t ) J t) ?_ (fun hJ_37 => ?_)
  rotate_left
  · refine ev_if_ne (pc := 37) (tgt := 54) dX12_relation_37 (by decide) (fun c_37 => ?_) (fun c_37 => ?_)
    · simp only [qIm37_X12_relation_68, if_neg c_37] at hJ_37
      exact ev_loc hJ_37 cw_le0
    · have hb := hF_37 c_37
      refine ev_iload_n (pc := 40) dX12_relation_40 rfl ?_
      obtain ⟨hT_41, hF_41⟩ := hb
      refine ev_cut (pj := 54) (Lj := [some (.ref (cw_z g + 68)), some (.int (q4_X12_relation_68 n I A J t)), some (.int (qs0m13_X12_relation_68 n I A J t)), none, none]) (stj := []) (σj := hp g (qIm41_X12_relation_68 n I A J t) (pA_X12_expression_68 n I A J t ) J t) ?_ (fun hJ_41 => ?_)
      rotate_left
      · refine ev_if_lt (pc := 41) (tgt := 49) dX12_relation_41 (by decide) (fun c_41 => ?_) (fun c_41 => ?_)
        · have hb := hT_41 c_41
          refine ev_aload_n (pc := 49) dX12_relation_49 rfl ?_
          refine ev_iconst (pc := 50) (v := 1) dX12_relation_50 (by decide) ?_
          refine ev_Vv (pc := 51) dX12_relation_51 lk_X12_230 cd_X12_fail ar_X12_fail ⟨by decide, rfl, rfl⟩ (cv_X12_fail_68 g n (pI_X12_expression_68 n I A J t ) (pA_X12_expression_68 n I A J t ) J t 1 hb) (show 68 < 120 by decide) rfl rfl rfl rfl (Nat.le_of_ble_eq_true rfl) ⟨by decide, by decide⟩ ?_
          simp only [qIm41_X12_relation_68, if_pos c_41] at hJ_41
          exact ev_loc hJ_41 cw_le0
        · have hb := hF_41 c_41
          refine ev_iload_n (pc := 44) dX12_relation_44 rfl ?_
          refine ev_iconst (pc := 45) (v := 3) dX12_relation_45 (by decide) ?_
          have hF_46 := hb
          refine ev_cut (pj := 54) (Lj := [some (.ref (cw_z g + 68)), some (.int (q4_X12_relation_68 n I A J t)), some (.int (qs0m13_X12_relation_68 n I A J t)), none, none]) (stj := []) (σj := hp g (qIm46_X12_relation_68 n I A J t) (pA_X12_expression_68 n I A J t ) J t) ?_ (fun hJ_46 => ?_)
          rotate_left
          · refine ev_icmp_le (pc := 46) (tgt := 54) dX12_relation_46 (by decide) (fun c_46 => ?_) (fun c_46 => ?_)
            · simp only [qIm46_X12_relation_68, if_pos c_46] at hJ_46
              exact ev_loc hJ_46 cw_le0
            · have hb := hF_46 c_46
              refine ev_aload_n (pc := 49) dX12_relation_49 rfl ?_
              refine ev_iconst (pc := 50) (v := 1) dX12_relation_50 (by decide) ?_
              refine ev_Vv (pc := 51) dX12_relation_51 lk_X12_230 cd_X12_fail ar_X12_fail ⟨by decide, rfl, rfl⟩ (cv_X12_fail_68 g n (pI_X12_expression_68 n I A J t ) (pA_X12_expression_68 n I A J t ) J t 1 hb) (show 68 < 120 by decide) rfl rfl rfl rfl (Nat.le_of_ble_eq_true rfl) ⟨by decide, by decide⟩ ?_
              simp only [qIm46_X12_relation_68, if_neg c_46] at hJ_46
              exact ev_loc hJ_46 cw_le0
          simp only [qIm41_X12_relation_68, if_neg c_41] at hJ_41
          exact ev_loc hJ_41 cw_le0
      simp only [qIm37_X12_relation_68, if_pos c_37] at hJ_37
      exact ev_loc hJ_37 cw_le0
  refine ev_aload_n (pc := 54) dX12_relation_54 rfl ?_
  refine ev_Vv (pc := 55) dX12_relation_55 lk_X12_236 cd_X12_next ar_X12_next ⟨by decide, rfl, rfl⟩ (cv_X12_next_68 g n (qIm37_X12_relation_68 n I A J t) (pA_X12_expression_68 n I A J t ) J t  hb.1) (show 68 < 120 by decide) rfl rfl rfl rfl (Nat.le_of_ble_eq_true rfl) ⟨by decide, by decide⟩ ?_
  replace hb := hb.2
  refine ev_aload_n (pc := 58) dX12_relation_58 rfl ?_
  refine tv_geti (pc := 59) dX12_relation_59 fl_X12_251 (by decide) rfl rfl ?_
  refine ev_is (y := (q62_X12_relation_68 n I A J t)) rfl ?_
  refine ev_istore_3 (pc := 62) dX12_relation_62 (by decide) rfl ?_
  refine ev_aload_n (pc := 63) dX12_relation_63 rfl ?_
  refine ev_Vv (pc := 64) dX12_relation_64 lk_X12_267 cd_X12_expression ar_X12_expression ⟨by decide, rfl, rfl⟩ (cv_X12_expression_68 g n (pI_X12_next_68 n (qIm37_X12_relation_68 n I A J t) (pA_X12_expression_68 n I A J t ) J t ) (pA_X12_expression_68 n I A J t ) J t  hb.1) (show 68 < 120 by decide) rfl rfl rfl rfl (Nat.le_of_ble_eq_true rfl) ⟨by decide, by decide⟩ ?_
  replace hb := hb.2
  refine ev_aload_n (pc := 67) dX12_relation_67 rfl ?_
  refine tv_geti (pc := 68) dX12_relation_68 fl_X12_215 (by decide) rfl rfl ?_
  have hT_71 := hb
  refine ev_if_le (pc := 71) (tgt := 75) dX12_relation_71 (by decide) (fun c_71 => ?_) (fun c_71 => ?_)
  · have hb := hT_71 c_71
    try simp only [if_pos c_71] at hQ
    refine ev_sipush (pc := 75) (v := 200) dX12_relation_75 (by decide) ?_
    refine ev_aload_n (pc := 78) dX12_relation_78 rfl ?_
    refine tv_geti (pc := 79) dX12_relation_79 fl_X12_248 (by decide) rfl rfl ?_
    refine ev_imul (pc := 82) dX12_relation_82 ?_
    refine ev_aload_n (pc := 83) dX12_relation_83 rfl ?_
    refine tv_getr (pc := 84) (d := 81) dX12_relation_84 fl_X12_56 (by decide) rfl rfl ?_
    refine ev_aload_n (pc := 87) dX12_relation_87 rfl ?_
    refine tv_geti (pc := 88) dX12_relation_88 fl_X12_248 (by decide) rfl rfl ?_
    refine ev_iald (pc := 91) dX12_relation_91 (by decide) rfl hb.1 ?_
    replace hb := hb.2
    refine ev_iadd (pc := 92) dX12_relation_92 ?_
    refine ev_is (y := (q93_X12_relation_68 n I A J t)) rfl ?_
    refine ev_istore_4 (pc := 93) dX12_relation_93 (by decide) rfl ?_
    refine ev_aload_n (pc := 95) dX12_relation_95 rfl ?_
    refine tv_getr (pc := 96) (d := 82) dX12_relation_96 fl_X12_59 (by decide) rfl rfl ?_
    refine ev_iload (pc := 99) dX12_relation_99 rfl ?_
    refine ev_iload_n (pc := 101) dX12_relation_101 rfl ?_
    refine tw_iast (pc := 102) (A2 := (qA102_X12_relation_68 n I A J t)) dX12_relation_102 (by decide) rfl hb.1 rfl ?_
    replace hb := hb.2
    refine ev_aload_n (pc := 103) dX12_relation_103 rfl ?_
    refine tv_getr (pc := 104) (d := 83) dX12_relation_104 fl_X12_62 (by decide) rfl rfl ?_
    refine ev_iload (pc := 107) dX12_relation_107 rfl ?_
    refine ev_iload_n (pc := 109) dX12_relation_109 rfl ?_
    refine tw_iast (pc := 110) (A2 := (qA110_X12_relation_68 n I A J t)) dX12_relation_110 (by decide) rfl hb.1 rfl ?_
    replace hb := hb.2
    refine ev_aload_n (pc := 111) dX12_relation_111 rfl ?_
    refine tv_getr (pc := 112) (d := 84) dX12_relation_112 fl_X12_65 (by decide) rfl rfl ?_
    refine ev_iload (pc := 115) dX12_relation_115 rfl ?_
    refine ev_iload_n (pc := 117) dX12_relation_117 rfl ?_
    refine tw_iast (pc := 118) (A2 := (qA118_X12_relation_68 n I A J t)) dX12_relation_118 (by decide) rfl hb.1 rfl ?_
    replace hb := hb.2
    refine ev_aload_n (pc := 119) dX12_relation_119 rfl ?_
    refine tv_getr (pc := 120) (d := 85) dX12_relation_120 fl_X12_68 (by decide) rfl rfl ?_
    refine ev_iload (pc := 123) dX12_relation_123 rfl ?_
    refine ev_aload_n (pc := 125) dX12_relation_125 rfl ?_
    refine tv_geti (pc := 126) dX12_relation_126 fl_X12_251 (by decide) rfl rfl ?_
    refine tw_iast (pc := 129) (A2 := (qA129_X12_relation_68 n I A J t)) dX12_relation_129 (by decide) rfl hb.1 rfl ?_
    replace hb := hb.2
    refine ev_aload_n (pc := 130) dX12_relation_130 rfl ?_
    refine tv_getr (pc := 131) (d := 81) dX12_relation_131 fl_X12_56 (by decide) rfl rfl ?_
    refine ev_aload_n (pc := 134) dX12_relation_134 rfl ?_
    refine tv_geti (pc := 135) dX12_relation_135 fl_X12_248 (by decide) rfl rfl ?_
    refine ev_dup2 (pc := 138) dX12_relation_138 rfl rfl ?_
    refine ev_iald (pc := 139) dX12_relation_139 (by decide) rfl hb.1 ?_
    replace hb := hb.2
    refine ev_iconst (pc := 140) (v := 1) dX12_relation_140 (by decide) ?_
    refine ev_iadd (pc := 141) dX12_relation_141 ?_
    refine tw_iast (pc := 142) (A2 := (qA142_X12_relation_68 n I A J t)) dX12_relation_142 (by decide) rfl hb rfl ?_
    exact ev_vret (pc := 143) dX12_relation_143 rfl (by decide) (by decide) (hQ _ _ ⟨rfl, rfl⟩)
  · try simp only [if_neg c_71] at hQ
    exact ev_vret (pc := 74) dX12_relation_74 rfl (by decide) (by decide) (hQ _ _ ⟨rfl, rfl⟩)

def qIm37_X12_tellRule_68 (n : Nat) (I : Nat → Nat → Int32) (A : Nat → Nat → Int32) (J : Nat → Nat → Int64) (t : Bool × Bool) : Nat → Nat → Int32 := if (A 76 ((I 68 19)).toNatClampNeg) = 20 then (pI_X12_fail_68 n I A J t 2) else I
def qIm15_X12_tellRule_68 (n : Nat) (I : Nat → Nat → Int32) (A : Nat → Nat → Int32) (J : Nat → Nat → Int64) (t : Bool × Bool) : Nat → Nat → Int32 := if (px_X12_is_68 n I A J t 21) = 0 then (pI_X12_fail_68 n I A J t 1) else (qIm37_X12_tellRule_68 n I A J t)
def qIm6_X12_tellRule_68 (n : Nat) (I : Nat → Nat → Int32) (A : Nat → Nat → Int32) (J : Nat → Nat → Int64) (t : Bool × Bool) : Nat → Nat → Int32 := if (px_X12_is_68 n I A J t 20) = 0 then (qIm15_X12_tellRule_68 n I A J t) else (qIm37_X12_tellRule_68 n I A J t)
def q70_X12_tellRule_68 (n : Nat) (I : Nat → Nat → Int32) (A : Nat → Nat → Int32) (J : Nat → Nat → Int64) (t : Bool × Bool) : Int32 := (((20 : Int32) * ((qIm6_X12_tellRule_68 n I A J t) 68 19)) + (A 76 (((qIm6_X12_tellRule_68 n I A J t) 68 19)).toNatClampNeg))
def qA82_X12_tellRule_68 (n : Nat) (I : Nat → Nat → Int32) (A : Nat → Nat → Int32) (J : Nat → Nat → Int64) (t : Bool × Bool) : Nat → Nat → Int32 := cw_u A 77 ((q70_X12_tellRule_68 n I A J t)).toNatClampNeg (vp_nar .boolean (px_X12_is_68 n (qIm6_X12_tellRule_68 n I A J t) A J t 20))
def qA99_X12_tellRule_68 (n : Nat) (I : Nat → Nat → Int32) (A : Nat → Nat → Int32) (J : Nat → Nat → Int64) (t : Bool × Bool) : Nat → Nat → Int32 := cw_u (qA82_X12_tellRule_68 n I A J t) 78 ((q70_X12_tellRule_68 n I A J t)).toNatClampNeg 0
def qA106_X12_tellRule_68 (n : Nat) (I : Nat → Nat → Int32) (A : Nat → Nat → Int32) (J : Nat → Nat → Int64) (t : Bool × Bool) : Nat → Nat → Int32 := cw_u (qA99_X12_tellRule_68 n I A J t) 79 ((q70_X12_tellRule_68 n I A J t)).toNatClampNeg (-1)
def lp_X12_tellRule_68_231 (n : Nat) (I : Nat → Nat → Int32) (A : Nat → Nat → Int32) (J : Nat → Nat → Int64) (t : Bool × Bool) : Nat → (Nat → Nat → Int32) → (Nat → Nat → Int32) → (Nat → Nat → Int32) × (Nat → Nat → Int32)
  | 0, I231, A231 => (I231, A231)
  | f + 1, I231, A231 => if (px_X12_is_68 n I231 A231 J t 26) = 0 then (I231, A231) else lp_X12_tellRule_68_231 n I A J t f (pI_X12_relation_68 n (pI_X12_next_68 n I231 A231 J t ) A231 J t ) (pA_X12_relation_68 n (pI_X12_next_68 n I231 A231 J t ) A231 J t )
def lb_X12_tellRule_68_231 (n : Nat) (I : Nat → Nat → Int32) (A : Nat → Nat → Int32) (J : Nat → Nat → Int64) (t : Bool × Bool) : Nat → (Nat → Nat → Int32) → (Nat → Nat → Int32) → Prop
  | 0, _, _ => False
  | f + 1, I231, A231 => pb_X12_is_68 n I231 A231 J t 26 ∧ (¬ (px_X12_is_68 n I231 A231 J t 26) = 0 → pb_X12_next_68 n I231 A231 J t  ∧ pb_X12_relation_68 n (pI_X12_next_68 n I231 A231 J t ) A231 J t  ∧ lb_X12_tellRule_68_231 n I A J t f (pI_X12_relation_68 n (pI_X12_next_68 n I231 A231 J t ) A231 J t ) (pA_X12_relation_68 n (pI_X12_next_68 n I231 A231 J t ) A231 J t ))
def qIw231_X12_tellRule_68 (n : Nat) (I : Nat → Nat → Int32) (A : Nat → Nat → Int32) (J : Nat → Nat → Int64) (t : Bool × Bool) : Nat → Nat → Int32 := (lp_X12_tellRule_68_231 n I A J t n (pI_X12_relation_68 n (pI_X12_next_68 n (pI_X12_must_68 n (pI_X12_next_68 n (qIm6_X12_tellRule_68 n I A J t) (qA82_X12_tellRule_68 n I A J t) J t ) (qA82_X12_tellRule_68 n I A J t) J t 22) (qA106_X12_tellRule_68 n I A J t) J t ) (qA106_X12_tellRule_68 n I A J t) J t ) (pA_X12_relation_68 n (pI_X12_next_68 n (pI_X12_must_68 n (pI_X12_next_68 n (qIm6_X12_tellRule_68 n I A J t) (qA82_X12_tellRule_68 n I A J t) J t ) (qA82_X12_tellRule_68 n I A J t) J t 22) (qA106_X12_tellRule_68 n I A J t) J t ) (qA106_X12_tellRule_68 n I A J t) J t )).1
def qAw231_X12_tellRule_68 (n : Nat) (I : Nat → Nat → Int32) (A : Nat → Nat → Int32) (J : Nat → Nat → Int64) (t : Bool × Bool) : Nat → Nat → Int32 := (lp_X12_tellRule_68_231 n I A J t n (pI_X12_relation_68 n (pI_X12_next_68 n (pI_X12_must_68 n (pI_X12_next_68 n (qIm6_X12_tellRule_68 n I A J t) (qA82_X12_tellRule_68 n I A J t) J t ) (qA82_X12_tellRule_68 n I A J t) J t 22) (qA106_X12_tellRule_68 n I A J t) J t ) (qA106_X12_tellRule_68 n I A J t) J t ) (pA_X12_relation_68 n (pI_X12_next_68 n (pI_X12_must_68 n (pI_X12_next_68 n (qIm6_X12_tellRule_68 n I A J t) (qA82_X12_tellRule_68 n I A J t) J t ) (qA82_X12_tellRule_68 n I A J t) J t 22) (qA106_X12_tellRule_68 n I A J t) J t ) (qA106_X12_tellRule_68 n I A J t) J t )).2
def qIm220_X12_tellRule_68 (n : Nat) (I : Nat → Nat → Int32) (A : Nat → Nat → Int32) (J : Nat → Nat → Int64) (t : Bool × Bool) : Nat → Nat → Int32 := if (px_X12_is_68 n (pI_X12_must_68 n (pI_X12_next_68 n (qIm6_X12_tellRule_68 n I A J t) (qA82_X12_tellRule_68 n I A J t) J t ) (qA82_X12_tellRule_68 n I A J t) J t 22) (qA106_X12_tellRule_68 n I A J t) J t 25) = 0 then (pI_X12_must_68 n (pI_X12_next_68 n (qIm6_X12_tellRule_68 n I A J t) (qA82_X12_tellRule_68 n I A J t) J t ) (qA82_X12_tellRule_68 n I A J t) J t 22) else (qIw231_X12_tellRule_68 n I A J t)
def qAm220_X12_tellRule_68 (n : Nat) (I : Nat → Nat → Int32) (A : Nat → Nat → Int32) (J : Nat → Nat → Int64) (t : Bool × Bool) : Nat → Nat → Int32 := if (px_X12_is_68 n (pI_X12_must_68 n (pI_X12_next_68 n (qIm6_X12_tellRule_68 n I A J t) (qA82_X12_tellRule_68 n I A J t) J t ) (qA82_X12_tellRule_68 n I A J t) J t 22) (qA106_X12_tellRule_68 n I A J t) J t 25) = 0 then (qA106_X12_tellRule_68 n I A J t) else (qAw231_X12_tellRule_68 n I A J t)
def qA276_X12_tellRule_68 (n : Nat) (I : Nat → Nat → Int32) (A : Nat → Nat → Int32) (J : Nat → Nat → Int64) (t : Bool × Bool) : Nat → Nat → Int32 := cw_u (qAm220_X12_tellRule_68 n I A J t) 76 (((pI_X12_must_68 n (qIm220_X12_tellRule_68 n I A J t) (qAm220_X12_tellRule_68 n I A J t) J t 4) 68 19)).toNatClampNeg (((qAm220_X12_tellRule_68 n I A J t) 76 (((pI_X12_must_68 n (qIm220_X12_tellRule_68 n I A J t) (qAm220_X12_tellRule_68 n I A J t) J t 4) 68 19)).toNatClampNeg) + 1)
def qA307_X12_tellRule_68 (n : Nat) (I : Nat → Nat → Int32) (A : Nat → Nat → Int32) (J : Nat → Nat → Int64) (t : Bool × Bool) : Nat → Nat → Int32 := cw_u (qA276_X12_tellRule_68 n I A J t) 80 ((((21 : Int32) * ((pI_X12_must_68 n (qIm220_X12_tellRule_68 n I A J t) (qAm220_X12_tellRule_68 n I A J t) J t 4) 68 19)) + ((qA276_X12_tellRule_68 n I A J t) 76 (((pI_X12_must_68 n (qIm220_X12_tellRule_68 n I A J t) (qAm220_X12_tellRule_68 n I A J t) J t 4) 68 19)).toNatClampNeg))).toNatClampNeg ((qA276_X12_tellRule_68 n I A J t) 81 (((pI_X12_must_68 n (qIm220_X12_tellRule_68 n I A J t) (qAm220_X12_tellRule_68 n I A J t) J t 4) 68 19)).toNatClampNeg)
def q167_X12_tellRule_68 (n : Nat) (I : Nat → Nat → Int32) (A : Nat → Nat → Int32) (J : Nat → Nat → Int64) (t : Bool × Bool) : Int32 := ((pI_X12_next_68 n (pI_X12_must_68 n (pI_X12_next_68 n (qIm6_X12_tellRule_68 n I A J t) (qA82_X12_tellRule_68 n I A J t) J t ) (qA82_X12_tellRule_68 n I A J t) J t 22) (qA106_X12_tellRule_68 n I A J t) J t ) 68 11)
def qA192_X12_tellRule_68 (n : Nat) (I : Nat → Nat → Int32) (A : Nat → Nat → Int32) (J : Nat → Nat → Int64) (t : Bool × Bool) : Nat → Nat → Int32 := cw_u (qA106_X12_tellRule_68 n I A J t) 79 ((q70_X12_tellRule_68 n I A J t)).toNatClampNeg ((qA106_X12_tellRule_68 n I A J t) 73 ((q167_X12_tellRule_68 n I A J t)).toNatClampNeg)
def qIm205_X12_tellRule_68 (n : Nat) (I : Nat → Nat → Int32) (A : Nat → Nat → Int32) (J : Nat → Nat → Int64) (t : Bool × Bool) : Nat → Nat → Int32 := if ((qA192_X12_tellRule_68 n I A J t) 78 ((q70_X12_tellRule_68 n I A J t)).toNatClampNeg) < ((qA192_X12_tellRule_68 n I A J t) 79 ((q70_X12_tellRule_68 n I A J t)).toNatClampNeg) then (pI_X12_must_68 n (pI_X12_next_68 n (pI_X12_must_68 n (pI_X12_next_68 n (qIm6_X12_tellRule_68 n I A J t) (qA82_X12_tellRule_68 n I A J t) J t ) (qA82_X12_tellRule_68 n I A J t) J t 22) (qA106_X12_tellRule_68 n I A J t) J t ) (qA106_X12_tellRule_68 n I A J t) J t 2) else (pI_X12_wrong_68 n (pI_X12_must_68 n (pI_X12_next_68 n (pI_X12_must_68 n (pI_X12_next_68 n (qIm6_X12_tellRule_68 n I A J t) (qA82_X12_tellRule_68 n I A J t) J t ) (qA82_X12_tellRule_68 n I A J t) J t 22) (qA106_X12_tellRule_68 n I A J t) J t ) (qA106_X12_tellRule_68 n I A J t) J t 2) (qA192_X12_tellRule_68 n I A J t) J t 5 (q167_X12_tellRule_68 n I A J t))
def lp_X12_tellRule_68_231_2 (n : Nat) (I : Nat → Nat → Int32) (A : Nat → Nat → Int32) (J : Nat → Nat → Int64) (t : Bool × Bool) : Nat → (Nat → Nat → Int32) → (Nat → Nat → Int32) → (Nat → Nat → Int32) × (Nat → Nat → Int32)
  | 0, I231, A231 => (I231, A231)
  | f + 1, I231, A231 => if (px_X12_is_68 n I231 A231 J t 26) = 0 then (I231, A231) else lp_X12_tellRule_68_231_2 n I A J t f (pI_X12_relation_68 n (pI_X12_next_68 n I231 A231 J t ) A231 J t ) (pA_X12_relation_68 n (pI_X12_next_68 n I231 A231 J t ) A231 J t )
def lb_X12_tellRule_68_231_2 (n : Nat) (I : Nat → Nat → Int32) (A : Nat → Nat → Int32) (J : Nat → Nat → Int64) (t : Bool × Bool) : Nat → (Nat → Nat → Int32) → (Nat → Nat → Int32) → Prop
  | 0, _, _ => False
  | f + 1, I231, A231 => pb_X12_is_68 n I231 A231 J t 26 ∧ (¬ (px_X12_is_68 n I231 A231 J t 26) = 0 → pb_X12_next_68 n I231 A231 J t  ∧ pb_X12_relation_68 n (pI_X12_next_68 n I231 A231 J t ) A231 J t  ∧ lb_X12_tellRule_68_231_2 n I A J t f (pI_X12_relation_68 n (pI_X12_next_68 n I231 A231 J t ) A231 J t ) (pA_X12_relation_68 n (pI_X12_next_68 n I231 A231 J t ) A231 J t ))
def qIw231_1_X12_tellRule_68 (n : Nat) (I : Nat → Nat → Int32) (A : Nat → Nat → Int32) (J : Nat → Nat → Int64) (t : Bool × Bool) : Nat → Nat → Int32 := (lp_X12_tellRule_68_231_2 n I A J t n (pI_X12_relation_68 n (pI_X12_next_68 n (qIm205_X12_tellRule_68 n I A J t) (qA192_X12_tellRule_68 n I A J t) J t ) (qA192_X12_tellRule_68 n I A J t) J t ) (pA_X12_relation_68 n (pI_X12_next_68 n (qIm205_X12_tellRule_68 n I A J t) (qA192_X12_tellRule_68 n I A J t) J t ) (qA192_X12_tellRule_68 n I A J t) J t )).1
def qAw231_2_X12_tellRule_68 (n : Nat) (I : Nat → Nat → Int32) (A : Nat → Nat → Int32) (J : Nat → Nat → Int64) (t : Bool × Bool) : Nat → Nat → Int32 := (lp_X12_tellRule_68_231_2 n I A J t n (pI_X12_relation_68 n (pI_X12_next_68 n (qIm205_X12_tellRule_68 n I A J t) (qA192_X12_tellRule_68 n I A J t) J t ) (qA192_X12_tellRule_68 n I A J t) J t ) (pA_X12_relation_68 n (pI_X12_next_68 n (qIm205_X12_tellRule_68 n I A J t) (qA192_X12_tellRule_68 n I A J t) J t ) (qA192_X12_tellRule_68 n I A J t) J t )).2
def qIm220_3_X12_tellRule_68 (n : Nat) (I : Nat → Nat → Int32) (A : Nat → Nat → Int32) (J : Nat → Nat → Int64) (t : Bool × Bool) : Nat → Nat → Int32 := if (px_X12_is_68 n (qIm205_X12_tellRule_68 n I A J t) (qA192_X12_tellRule_68 n I A J t) J t 25) = 0 then (qIm205_X12_tellRule_68 n I A J t) else (qIw231_1_X12_tellRule_68 n I A J t)
def qAm220_4_X12_tellRule_68 (n : Nat) (I : Nat → Nat → Int32) (A : Nat → Nat → Int32) (J : Nat → Nat → Int64) (t : Bool × Bool) : Nat → Nat → Int32 := if (px_X12_is_68 n (qIm205_X12_tellRule_68 n I A J t) (qA192_X12_tellRule_68 n I A J t) J t 25) = 0 then (qA192_X12_tellRule_68 n I A J t) else (qAw231_2_X12_tellRule_68 n I A J t)
def qA276_5_X12_tellRule_68 (n : Nat) (I : Nat → Nat → Int32) (A : Nat → Nat → Int32) (J : Nat → Nat → Int64) (t : Bool × Bool) : Nat → Nat → Int32 := cw_u (qAm220_4_X12_tellRule_68 n I A J t) 76 (((pI_X12_must_68 n (qIm220_3_X12_tellRule_68 n I A J t) (qAm220_4_X12_tellRule_68 n I A J t) J t 4) 68 19)).toNatClampNeg (((qAm220_4_X12_tellRule_68 n I A J t) 76 (((pI_X12_must_68 n (qIm220_3_X12_tellRule_68 n I A J t) (qAm220_4_X12_tellRule_68 n I A J t) J t 4) 68 19)).toNatClampNeg) + 1)
def qA307_6_X12_tellRule_68 (n : Nat) (I : Nat → Nat → Int32) (A : Nat → Nat → Int32) (J : Nat → Nat → Int64) (t : Bool × Bool) : Nat → Nat → Int32 := cw_u (qA276_5_X12_tellRule_68 n I A J t) 80 ((((21 : Int32) * ((pI_X12_must_68 n (qIm220_3_X12_tellRule_68 n I A J t) (qAm220_4_X12_tellRule_68 n I A J t) J t 4) 68 19)) + ((qA276_5_X12_tellRule_68 n I A J t) 76 (((pI_X12_must_68 n (qIm220_3_X12_tellRule_68 n I A J t) (qAm220_4_X12_tellRule_68 n I A J t) J t 4) 68 19)).toNatClampNeg))).toNatClampNeg ((qA276_5_X12_tellRule_68 n I A J t) 81 (((pI_X12_must_68 n (qIm220_3_X12_tellRule_68 n I A J t) (qAm220_4_X12_tellRule_68 n I A J t) J t 4) 68 19)).toNatClampNeg)
def qA149_X12_tellRule_68 (n : Nat) (I : Nat → Nat → Int32) (A : Nat → Nat → Int32) (J : Nat → Nat → Int64) (t : Bool × Bool) : Nat → Nat → Int32 := cw_u (qA106_X12_tellRule_68 n I A J t) 78 ((q70_X12_tellRule_68 n I A J t)).toNatClampNeg ((qA106_X12_tellRule_68 n I A J t) 73 ((q167_X12_tellRule_68 n I A J t)).toNatClampNeg)
def lp_X12_tellRule_68_231_3 (n : Nat) (I : Nat → Nat → Int32) (A : Nat → Nat → Int32) (J : Nat → Nat → Int64) (t : Bool × Bool) : Nat → (Nat → Nat → Int32) → (Nat → Nat → Int32) → (Nat → Nat → Int32) × (Nat → Nat → Int32)
  | 0, I231, A231 => (I231, A231)
  | f + 1, I231, A231 => if (px_X12_is_68 n I231 A231 J t 26) = 0 then (I231, A231) else lp_X12_tellRule_68_231_3 n I A J t f (pI_X12_relation_68 n (pI_X12_next_68 n I231 A231 J t ) A231 J t ) (pA_X12_relation_68 n (pI_X12_next_68 n I231 A231 J t ) A231 J t )
def lb_X12_tellRule_68_231_3 (n : Nat) (I : Nat → Nat → Int32) (A : Nat → Nat → Int32) (J : Nat → Nat → Int64) (t : Bool × Bool) : Nat → (Nat → Nat → Int32) → (Nat → Nat → Int32) → Prop
  | 0, _, _ => False
  | f + 1, I231, A231 => pb_X12_is_68 n I231 A231 J t 26 ∧ (¬ (px_X12_is_68 n I231 A231 J t 26) = 0 → pb_X12_next_68 n I231 A231 J t  ∧ pb_X12_relation_68 n (pI_X12_next_68 n I231 A231 J t ) A231 J t  ∧ lb_X12_tellRule_68_231_3 n I A J t f (pI_X12_relation_68 n (pI_X12_next_68 n I231 A231 J t ) A231 J t ) (pA_X12_relation_68 n (pI_X12_next_68 n I231 A231 J t ) A231 J t ))
def qIw231_7_X12_tellRule_68 (n : Nat) (I : Nat → Nat → Int32) (A : Nat → Nat → Int32) (J : Nat → Nat → Int64) (t : Bool × Bool) : Nat → Nat → Int32 := (lp_X12_tellRule_68_231_3 n I A J t n (pI_X12_relation_68 n (pI_X12_next_68 n (pI_X12_must_68 n (pI_X12_next_68 n (pI_X12_must_68 n (pI_X12_next_68 n (qIm6_X12_tellRule_68 n I A J t) (qA82_X12_tellRule_68 n I A J t) J t ) (qA82_X12_tellRule_68 n I A J t) J t 22) (qA106_X12_tellRule_68 n I A J t) J t ) (qA106_X12_tellRule_68 n I A J t) J t 2) (qA149_X12_tellRule_68 n I A J t) J t ) (qA149_X12_tellRule_68 n I A J t) J t ) (pA_X12_relation_68 n (pI_X12_next_68 n (pI_X12_must_68 n (pI_X12_next_68 n (pI_X12_must_68 n (pI_X12_next_68 n (qIm6_X12_tellRule_68 n I A J t) (qA82_X12_tellRule_68 n I A J t) J t ) (qA82_X12_tellRule_68 n I A J t) J t 22) (qA106_X12_tellRule_68 n I A J t) J t ) (qA106_X12_tellRule_68 n I A J t) J t 2) (qA149_X12_tellRule_68 n I A J t) J t ) (qA149_X12_tellRule_68 n I A J t) J t )).1
def qAw231_8_X12_tellRule_68 (n : Nat) (I : Nat → Nat → Int32) (A : Nat → Nat → Int32) (J : Nat → Nat → Int64) (t : Bool × Bool) : Nat → Nat → Int32 := (lp_X12_tellRule_68_231_3 n I A J t n (pI_X12_relation_68 n (pI_X12_next_68 n (pI_X12_must_68 n (pI_X12_next_68 n (pI_X12_must_68 n (pI_X12_next_68 n (qIm6_X12_tellRule_68 n I A J t) (qA82_X12_tellRule_68 n I A J t) J t ) (qA82_X12_tellRule_68 n I A J t) J t 22) (qA106_X12_tellRule_68 n I A J t) J t ) (qA106_X12_tellRule_68 n I A J t) J t 2) (qA149_X12_tellRule_68 n I A J t) J t ) (qA149_X12_tellRule_68 n I A J t) J t ) (pA_X12_relation_68 n (pI_X12_next_68 n (pI_X12_must_68 n (pI_X12_next_68 n (pI_X12_must_68 n (pI_X12_next_68 n (qIm6_X12_tellRule_68 n I A J t) (qA82_X12_tellRule_68 n I A J t) J t ) (qA82_X12_tellRule_68 n I A J t) J t 22) (qA106_X12_tellRule_68 n I A J t) J t ) (qA106_X12_tellRule_68 n I A J t) J t 2) (qA149_X12_tellRule_68 n I A J t) J t ) (qA149_X12_tellRule_68 n I A J t) J t )).2
def qIm220_9_X12_tellRule_68 (n : Nat) (I : Nat → Nat → Int32) (A : Nat → Nat → Int32) (J : Nat → Nat → Int64) (t : Bool × Bool) : Nat → Nat → Int32 := if (px_X12_is_68 n (pI_X12_must_68 n (pI_X12_next_68 n (pI_X12_must_68 n (pI_X12_next_68 n (qIm6_X12_tellRule_68 n I A J t) (qA82_X12_tellRule_68 n I A J t) J t ) (qA82_X12_tellRule_68 n I A J t) J t 22) (qA106_X12_tellRule_68 n I A J t) J t ) (qA106_X12_tellRule_68 n I A J t) J t 2) (qA149_X12_tellRule_68 n I A J t) J t 25) = 0 then (pI_X12_must_68 n (pI_X12_next_68 n (pI_X12_must_68 n (pI_X12_next_68 n (qIm6_X12_tellRule_68 n I A J t) (qA82_X12_tellRule_68 n I A J t) J t ) (qA82_X12_tellRule_68 n I A J t) J t 22) (qA106_X12_tellRule_68 n I A J t) J t ) (qA106_X12_tellRule_68 n I A J t) J t 2) else (qIw231_7_X12_tellRule_68 n I A J t)
def qAm220_10_X12_tellRule_68 (n : Nat) (I : Nat → Nat → Int32) (A : Nat → Nat → Int32) (J : Nat → Nat → Int64) (t : Bool × Bool) : Nat → Nat → Int32 := if (px_X12_is_68 n (pI_X12_must_68 n (pI_X12_next_68 n (pI_X12_must_68 n (pI_X12_next_68 n (qIm6_X12_tellRule_68 n I A J t) (qA82_X12_tellRule_68 n I A J t) J t ) (qA82_X12_tellRule_68 n I A J t) J t 22) (qA106_X12_tellRule_68 n I A J t) J t ) (qA106_X12_tellRule_68 n I A J t) J t 2) (qA149_X12_tellRule_68 n I A J t) J t 25) = 0 then (qA149_X12_tellRule_68 n I A J t) else (qAw231_8_X12_tellRule_68 n I A J t)
def qA276_11_X12_tellRule_68 (n : Nat) (I : Nat → Nat → Int32) (A : Nat → Nat → Int32) (J : Nat → Nat → Int64) (t : Bool × Bool) : Nat → Nat → Int32 := cw_u (qAm220_10_X12_tellRule_68 n I A J t) 76 (((pI_X12_must_68 n (qIm220_9_X12_tellRule_68 n I A J t) (qAm220_10_X12_tellRule_68 n I A J t) J t 4) 68 19)).toNatClampNeg (((qAm220_10_X12_tellRule_68 n I A J t) 76 (((pI_X12_must_68 n (qIm220_9_X12_tellRule_68 n I A J t) (qAm220_10_X12_tellRule_68 n I A J t) J t 4) 68 19)).toNatClampNeg) + 1)
def qA307_12_X12_tellRule_68 (n : Nat) (I : Nat → Nat → Int32) (A : Nat → Nat → Int32) (J : Nat → Nat → Int64) (t : Bool × Bool) : Nat → Nat → Int32 := cw_u (qA276_11_X12_tellRule_68 n I A J t) 80 ((((21 : Int32) * ((pI_X12_must_68 n (qIm220_9_X12_tellRule_68 n I A J t) (qAm220_10_X12_tellRule_68 n I A J t) J t 4) 68 19)) + ((qA276_11_X12_tellRule_68 n I A J t) 76 (((pI_X12_must_68 n (qIm220_9_X12_tellRule_68 n I A J t) (qAm220_10_X12_tellRule_68 n I A J t) J t 4) 68 19)).toNatClampNeg))).toNatClampNeg ((qA276_11_X12_tellRule_68 n I A J t) 81 (((pI_X12_must_68 n (qIm220_9_X12_tellRule_68 n I A J t) (qAm220_10_X12_tellRule_68 n I A J t) J t 4) 68 19)).toNatClampNeg)
def q167_13_X12_tellRule_68 (n : Nat) (I : Nat → Nat → Int32) (A : Nat → Nat → Int32) (J : Nat → Nat → Int64) (t : Bool × Bool) : Int32 := ((pI_X12_next_68 n (pI_X12_must_68 n (pI_X12_next_68 n (pI_X12_must_68 n (pI_X12_next_68 n (qIm6_X12_tellRule_68 n I A J t) (qA82_X12_tellRule_68 n I A J t) J t ) (qA82_X12_tellRule_68 n I A J t) J t 22) (qA106_X12_tellRule_68 n I A J t) J t ) (qA106_X12_tellRule_68 n I A J t) J t 2) (qA149_X12_tellRule_68 n I A J t) J t ) 68 11)
def qA192_14_X12_tellRule_68 (n : Nat) (I : Nat → Nat → Int32) (A : Nat → Nat → Int32) (J : Nat → Nat → Int64) (t : Bool × Bool) : Nat → Nat → Int32 := cw_u (qA149_X12_tellRule_68 n I A J t) 79 ((q70_X12_tellRule_68 n I A J t)).toNatClampNeg ((qA149_X12_tellRule_68 n I A J t) 73 ((q167_13_X12_tellRule_68 n I A J t)).toNatClampNeg)
def qIm205_15_X12_tellRule_68 (n : Nat) (I : Nat → Nat → Int32) (A : Nat → Nat → Int32) (J : Nat → Nat → Int64) (t : Bool × Bool) : Nat → Nat → Int32 := if ((qA192_14_X12_tellRule_68 n I A J t) 78 ((q70_X12_tellRule_68 n I A J t)).toNatClampNeg) < ((qA192_14_X12_tellRule_68 n I A J t) 79 ((q70_X12_tellRule_68 n I A J t)).toNatClampNeg) then (pI_X12_must_68 n (pI_X12_next_68 n (pI_X12_must_68 n (pI_X12_next_68 n (pI_X12_must_68 n (pI_X12_next_68 n (qIm6_X12_tellRule_68 n I A J t) (qA82_X12_tellRule_68 n I A J t) J t ) (qA82_X12_tellRule_68 n I A J t) J t 22) (qA106_X12_tellRule_68 n I A J t) J t ) (qA106_X12_tellRule_68 n I A J t) J t 2) (qA149_X12_tellRule_68 n I A J t) J t ) (qA149_X12_tellRule_68 n I A J t) J t 2) else (pI_X12_wrong_68 n (pI_X12_must_68 n (pI_X12_next_68 n (pI_X12_must_68 n (pI_X12_next_68 n (pI_X12_must_68 n (pI_X12_next_68 n (qIm6_X12_tellRule_68 n I A J t) (qA82_X12_tellRule_68 n I A J t) J t ) (qA82_X12_tellRule_68 n I A J t) J t 22) (qA106_X12_tellRule_68 n I A J t) J t ) (qA106_X12_tellRule_68 n I A J t) J t 2) (qA149_X12_tellRule_68 n I A J t) J t ) (qA149_X12_tellRule_68 n I A J t) J t 2) (qA192_14_X12_tellRule_68 n I A J t) J t 5 (q167_13_X12_tellRule_68 n I A J t))
def lp_X12_tellRule_68_231_4 (n : Nat) (I : Nat → Nat → Int32) (A : Nat → Nat → Int32) (J : Nat → Nat → Int64) (t : Bool × Bool) : Nat → (Nat → Nat → Int32) → (Nat → Nat → Int32) → (Nat → Nat → Int32) × (Nat → Nat → Int32)
  | 0, I231, A231 => (I231, A231)
  | f + 1, I231, A231 => if (px_X12_is_68 n I231 A231 J t 26) = 0 then (I231, A231) else lp_X12_tellRule_68_231_4 n I A J t f (pI_X12_relation_68 n (pI_X12_next_68 n I231 A231 J t ) A231 J t ) (pA_X12_relation_68 n (pI_X12_next_68 n I231 A231 J t ) A231 J t )
def lb_X12_tellRule_68_231_4 (n : Nat) (I : Nat → Nat → Int32) (A : Nat → Nat → Int32) (J : Nat → Nat → Int64) (t : Bool × Bool) : Nat → (Nat → Nat → Int32) → (Nat → Nat → Int32) → Prop
  | 0, _, _ => False
  | f + 1, I231, A231 => pb_X12_is_68 n I231 A231 J t 26 ∧ (¬ (px_X12_is_68 n I231 A231 J t 26) = 0 → pb_X12_next_68 n I231 A231 J t  ∧ pb_X12_relation_68 n (pI_X12_next_68 n I231 A231 J t ) A231 J t  ∧ lb_X12_tellRule_68_231_4 n I A J t f (pI_X12_relation_68 n (pI_X12_next_68 n I231 A231 J t ) A231 J t ) (pA_X12_relation_68 n (pI_X12_next_68 n I231 A231 J t ) A231 J t ))
def qIw231_16_X12_tellRule_68 (n : Nat) (I : Nat → Nat → Int32) (A : Nat → Nat → Int32) (J : Nat → Nat → Int64) (t : Bool × Bool) : Nat → Nat → Int32 := (lp_X12_tellRule_68_231_4 n I A J t n (pI_X12_relation_68 n (pI_X12_next_68 n (qIm205_15_X12_tellRule_68 n I A J t) (qA192_14_X12_tellRule_68 n I A J t) J t ) (qA192_14_X12_tellRule_68 n I A J t) J t ) (pA_X12_relation_68 n (pI_X12_next_68 n (qIm205_15_X12_tellRule_68 n I A J t) (qA192_14_X12_tellRule_68 n I A J t) J t ) (qA192_14_X12_tellRule_68 n I A J t) J t )).1
def qAw231_17_X12_tellRule_68 (n : Nat) (I : Nat → Nat → Int32) (A : Nat → Nat → Int32) (J : Nat → Nat → Int64) (t : Bool × Bool) : Nat → Nat → Int32 := (lp_X12_tellRule_68_231_4 n I A J t n (pI_X12_relation_68 n (pI_X12_next_68 n (qIm205_15_X12_tellRule_68 n I A J t) (qA192_14_X12_tellRule_68 n I A J t) J t ) (qA192_14_X12_tellRule_68 n I A J t) J t ) (pA_X12_relation_68 n (pI_X12_next_68 n (qIm205_15_X12_tellRule_68 n I A J t) (qA192_14_X12_tellRule_68 n I A J t) J t ) (qA192_14_X12_tellRule_68 n I A J t) J t )).2
def qIm220_18_X12_tellRule_68 (n : Nat) (I : Nat → Nat → Int32) (A : Nat → Nat → Int32) (J : Nat → Nat → Int64) (t : Bool × Bool) : Nat → Nat → Int32 := if (px_X12_is_68 n (qIm205_15_X12_tellRule_68 n I A J t) (qA192_14_X12_tellRule_68 n I A J t) J t 25) = 0 then (qIm205_15_X12_tellRule_68 n I A J t) else (qIw231_16_X12_tellRule_68 n I A J t)
def qAm220_19_X12_tellRule_68 (n : Nat) (I : Nat → Nat → Int32) (A : Nat → Nat → Int32) (J : Nat → Nat → Int64) (t : Bool × Bool) : Nat → Nat → Int32 := if (px_X12_is_68 n (qIm205_15_X12_tellRule_68 n I A J t) (qA192_14_X12_tellRule_68 n I A J t) J t 25) = 0 then (qA192_14_X12_tellRule_68 n I A J t) else (qAw231_17_X12_tellRule_68 n I A J t)
def qA276_20_X12_tellRule_68 (n : Nat) (I : Nat → Nat → Int32) (A : Nat → Nat → Int32) (J : Nat → Nat → Int64) (t : Bool × Bool) : Nat → Nat → Int32 := cw_u (qAm220_19_X12_tellRule_68 n I A J t) 76 (((pI_X12_must_68 n (qIm220_18_X12_tellRule_68 n I A J t) (qAm220_19_X12_tellRule_68 n I A J t) J t 4) 68 19)).toNatClampNeg (((qAm220_19_X12_tellRule_68 n I A J t) 76 (((pI_X12_must_68 n (qIm220_18_X12_tellRule_68 n I A J t) (qAm220_19_X12_tellRule_68 n I A J t) J t 4) 68 19)).toNatClampNeg) + 1)
def qA307_21_X12_tellRule_68 (n : Nat) (I : Nat → Nat → Int32) (A : Nat → Nat → Int32) (J : Nat → Nat → Int64) (t : Bool × Bool) : Nat → Nat → Int32 := cw_u (qA276_20_X12_tellRule_68 n I A J t) 80 ((((21 : Int32) * ((pI_X12_must_68 n (qIm220_18_X12_tellRule_68 n I A J t) (qAm220_19_X12_tellRule_68 n I A J t) J t 4) 68 19)) + ((qA276_20_X12_tellRule_68 n I A J t) 76 (((pI_X12_must_68 n (qIm220_18_X12_tellRule_68 n I A J t) (qAm220_19_X12_tellRule_68 n I A J t) J t 4) 68 19)).toNatClampNeg))).toNatClampNeg ((qA276_20_X12_tellRule_68 n I A J t) 81 (((pI_X12_must_68 n (qIm220_18_X12_tellRule_68 n I A J t) (qAm220_19_X12_tellRule_68 n I A J t) J t 4) 68 19)).toNatClampNeg)
def pb_X12_tellRule_68 (n : Nat) (I : Nat → Nat → Int32) (A : Nat → Nat → Int32) (J : Nat → Nat → Int64) (t : Bool × Bool) : Prop := pb_X12_is_68 n I A J t 20 ∧ (¬ (px_X12_is_68 n I A J t 20) = 0 → vp_in (I 68 19) 2 ∧ ((A 76 ((I 68 19)).toNatClampNeg) = 20 → pb_X12_fail_68 n I A J t 2)) ∧ ((px_X12_is_68 n I A J t 20) = 0 → pb_X12_is_68 n I A J t 21 ∧ (¬ (px_X12_is_68 n I A J t 21) = 0 → vp_in (I 68 19) 2 ∧ ((A 76 ((I 68 19)).toNatClampNeg) = 20 → pb_X12_fail_68 n I A J t 2)) ∧ ((px_X12_is_68 n I A J t 21) = 0 → pb_X12_fail_68 n I A J t 1)) ∧ (((qIm6_X12_tellRule_68 n I A J t) 68 13) ≤ 0 → vp_in ((qIm6_X12_tellRule_68 n I A J t) 68 19) 2 ∧ pb_X12_is_68 n (qIm6_X12_tellRule_68 n I A J t) A J t 20 ∧ vp_in (q70_X12_tellRule_68 n I A J t) 40 ∧ pb_X12_next_68 n (qIm6_X12_tellRule_68 n I A J t) (qA82_X12_tellRule_68 n I A J t) J t  ∧ pb_X12_must_68 n (pI_X12_next_68 n (qIm6_X12_tellRule_68 n I A J t) (qA82_X12_tellRule_68 n I A J t) J t ) (qA82_X12_tellRule_68 n I A J t) J t 22 ∧ vp_in (q70_X12_tellRule_68 n I A J t) 40 ∧ vp_in (q70_X12_tellRule_68 n I A J t) 40 ∧ pb_X12_is_68 n (pI_X12_must_68 n (pI_X12_next_68 n (qIm6_X12_tellRule_68 n I A J t) (qA82_X12_tellRule_68 n I A J t) J t ) (qA82_X12_tellRule_68 n I A J t) J t 22) (qA106_X12_tellRule_68 n I A J t) J t 23 ∧ ((px_X12_is_68 n (pI_X12_must_68 n (pI_X12_next_68 n (qIm6_X12_tellRule_68 n I A J t) (qA82_X12_tellRule_68 n I A J t) J t ) (qA82_X12_tellRule_68 n I A J t) J t 22) (qA106_X12_tellRule_68 n I A J t) J t 23) = 0 → pb_X12_is_68 n (pI_X12_must_68 n (pI_X12_next_68 n (qIm6_X12_tellRule_68 n I A J t) (qA82_X12_tellRule_68 n I A J t) J t ) (qA82_X12_tellRule_68 n I A J t) J t 22) (qA106_X12_tellRule_68 n I A J t) J t 24 ∧ ((px_X12_is_68 n (pI_X12_must_68 n (pI_X12_next_68 n (qIm6_X12_tellRule_68 n I A J t) (qA82_X12_tellRule_68 n I A J t) J t ) (qA82_X12_tellRule_68 n I A J t) J t 22) (qA106_X12_tellRule_68 n I A J t) J t 24) = 0 → pb_X12_is_68 n (pI_X12_must_68 n (pI_X12_next_68 n (qIm6_X12_tellRule_68 n I A J t) (qA82_X12_tellRule_68 n I A J t) J t ) (qA82_X12_tellRule_68 n I A J t) J t 22) (qA106_X12_tellRule_68 n I A J t) J t 25 ∧ (¬ (px_X12_is_68 n (pI_X12_must_68 n (pI_X12_next_68 n (qIm6_X12_tellRule_68 n I A J t) (qA82_X12_tellRule_68 n I A J t) J t ) (qA82_X12_tellRule_68 n I A J t) J t 22) (qA106_X12_tellRule_68 n I A J t) J t 25) = 0 → pb_X12_next_68 n (pI_X12_must_68 n (pI_X12_next_68 n (qIm6_X12_tellRule_68 n I A J t) (qA82_X12_tellRule_68 n I A J t) J t ) (qA82_X12_tellRule_68 n I A J t) J t 22) (qA106_X12_tellRule_68 n I A J t) J t  ∧ pb_X12_relation_68 n (pI_X12_next_68 n (pI_X12_must_68 n (pI_X12_next_68 n (qIm6_X12_tellRule_68 n I A J t) (qA82_X12_tellRule_68 n I A J t) J t ) (qA82_X12_tellRule_68 n I A J t) J t 22) (qA106_X12_tellRule_68 n I A J t) J t ) (qA106_X12_tellRule_68 n I A J t) J t  ∧ lb_X12_tellRule_68_231 n I A J t n (pI_X12_relation_68 n (pI_X12_next_68 n (pI_X12_must_68 n (pI_X12_next_68 n (qIm6_X12_tellRule_68 n I A J t) (qA82_X12_tellRule_68 n I A J t) J t ) (qA82_X12_tellRule_68 n I A J t) J t 22) (qA106_X12_tellRule_68 n I A J t) J t ) (qA106_X12_tellRule_68 n I A J t) J t ) (pA_X12_relation_68 n (pI_X12_next_68 n (pI_X12_must_68 n (pI_X12_next_68 n (qIm6_X12_tellRule_68 n I A J t) (qA82_X12_tellRule_68 n I A J t) J t ) (qA82_X12_tellRule_68 n I A J t) J t 22) (qA106_X12_tellRule_68 n I A J t) J t ) (qA106_X12_tellRule_68 n I A J t) J t )) ∧ pb_X12_must_68 n (qIm220_X12_tellRule_68 n I A J t) (qAm220_X12_tellRule_68 n I A J t) J t 4 ∧ (((pI_X12_must_68 n (qIm220_X12_tellRule_68 n I A J t) (qAm220_X12_tellRule_68 n I A J t) J t 4) 68 13) ≤ 0 → vp_in ((pI_X12_must_68 n (qIm220_X12_tellRule_68 n I A J t) (qAm220_X12_tellRule_68 n I A J t) J t 4) 68 19) 2 ∧ vp_in ((pI_X12_must_68 n (qIm220_X12_tellRule_68 n I A J t) (qAm220_X12_tellRule_68 n I A J t) J t 4) 68 19) 2 ∧ vp_in ((pI_X12_must_68 n (qIm220_X12_tellRule_68 n I A J t) (qAm220_X12_tellRule_68 n I A J t) J t 4) 68 19) 2 ∧ vp_in ((pI_X12_must_68 n (qIm220_X12_tellRule_68 n I A J t) (qAm220_X12_tellRule_68 n I A J t) J t 4) 68 19) 2 ∧ vp_in (((21 : Int32) * ((pI_X12_must_68 n (qIm220_X12_tellRule_68 n I A J t) (qAm220_X12_tellRule_68 n I A J t) J t 4) 68 19)) + ((qA276_X12_tellRule_68 n I A J t) 76 (((pI_X12_must_68 n (qIm220_X12_tellRule_68 n I A J t) (qAm220_X12_tellRule_68 n I A J t) J t 4) 68 19)).toNatClampNeg)) 42)) ∧ (¬ (px_X12_is_68 n (pI_X12_must_68 n (pI_X12_next_68 n (qIm6_X12_tellRule_68 n I A J t) (qA82_X12_tellRule_68 n I A J t) J t ) (qA82_X12_tellRule_68 n I A J t) J t 22) (qA106_X12_tellRule_68 n I A J t) J t 24) = 0 → pb_X12_next_68 n (pI_X12_must_68 n (pI_X12_next_68 n (qIm6_X12_tellRule_68 n I A J t) (qA82_X12_tellRule_68 n I A J t) J t ) (qA82_X12_tellRule_68 n I A J t) J t 22) (qA106_X12_tellRule_68 n I A J t) J t  ∧ pb_X12_must_68 n (pI_X12_next_68 n (pI_X12_must_68 n (pI_X12_next_68 n (qIm6_X12_tellRule_68 n I A J t) (qA82_X12_tellRule_68 n I A J t) J t ) (qA82_X12_tellRule_68 n I A J t) J t 22) (qA106_X12_tellRule_68 n I A J t) J t ) (qA106_X12_tellRule_68 n I A J t) J t 2 ∧ (((pI_X12_must_68 n (pI_X12_next_68 n (pI_X12_must_68 n (pI_X12_next_68 n (qIm6_X12_tellRule_68 n I A J t) (qA82_X12_tellRule_68 n I A J t) J t ) (qA82_X12_tellRule_68 n I A J t) J t 22) (qA106_X12_tellRule_68 n I A J t) J t ) (qA106_X12_tellRule_68 n I A J t) J t 2) 68 13) ≤ 0 → vp_in (q167_X12_tellRule_68 n I A J t) 403 ∧ vp_in (q70_X12_tellRule_68 n I A J t) 40 ∧ vp_in (q70_X12_tellRule_68 n I A J t) 40 ∧ vp_in (q70_X12_tellRule_68 n I A J t) 40 ∧ (¬ ((qA192_X12_tellRule_68 n I A J t) 78 ((q70_X12_tellRule_68 n I A J t)).toNatClampNeg) < ((qA192_X12_tellRule_68 n I A J t) 79 ((q70_X12_tellRule_68 n I A J t)).toNatClampNeg) → pb_X12_wrong_68 n (pI_X12_must_68 n (pI_X12_next_68 n (pI_X12_must_68 n (pI_X12_next_68 n (qIm6_X12_tellRule_68 n I A J t) (qA82_X12_tellRule_68 n I A J t) J t ) (qA82_X12_tellRule_68 n I A J t) J t 22) (qA106_X12_tellRule_68 n I A J t) J t ) (qA106_X12_tellRule_68 n I A J t) J t 2) (qA192_X12_tellRule_68 n I A J t) J t 5 (q167_X12_tellRule_68 n I A J t)) ∧ pb_X12_is_68 n (qIm205_X12_tellRule_68 n I A J t) (qA192_X12_tellRule_68 n I A J t) J t 25 ∧ (¬ (px_X12_is_68 n (qIm205_X12_tellRule_68 n I A J t) (qA192_X12_tellRule_68 n I A J t) J t 25) = 0 → pb_X12_next_68 n (qIm205_X12_tellRule_68 n I A J t) (qA192_X12_tellRule_68 n I A J t) J t  ∧ pb_X12_relation_68 n (pI_X12_next_68 n (qIm205_X12_tellRule_68 n I A J t) (qA192_X12_tellRule_68 n I A J t) J t ) (qA192_X12_tellRule_68 n I A J t) J t  ∧ lb_X12_tellRule_68_231_2 n I A J t n (pI_X12_relation_68 n (pI_X12_next_68 n (qIm205_X12_tellRule_68 n I A J t) (qA192_X12_tellRule_68 n I A J t) J t ) (qA192_X12_tellRule_68 n I A J t) J t ) (pA_X12_relation_68 n (pI_X12_next_68 n (qIm205_X12_tellRule_68 n I A J t) (qA192_X12_tellRule_68 n I A J t) J t ) (qA192_X12_tellRule_68 n I A J t) J t )) ∧ pb_X12_must_68 n (qIm220_3_X12_tellRule_68 n I A J t) (qAm220_4_X12_tellRule_68 n I A J t) J t 4 ∧ (((pI_X12_must_68 n (qIm220_3_X12_tellRule_68 n I A J t) (qAm220_4_X12_tellRule_68 n I A J t) J t 4) 68 13) ≤ 0 → vp_in ((pI_X12_must_68 n (qIm220_3_X12_tellRule_68 n I A J t) (qAm220_4_X12_tellRule_68 n I A J t) J t 4) 68 19) 2 ∧ vp_in ((pI_X12_must_68 n (qIm220_3_X12_tellRule_68 n I A J t) (qAm220_4_X12_tellRule_68 n I A J t) J t 4) 68 19) 2 ∧ vp_in ((pI_X12_must_68 n (qIm220_3_X12_tellRule_68 n I A J t) (qAm220_4_X12_tellRule_68 n I A J t) J t 4) 68 19) 2 ∧ vp_in ((pI_X12_must_68 n (qIm220_3_X12_tellRule_68 n I A J t) (qAm220_4_X12_tellRule_68 n I A J t) J t 4) 68 19) 2 ∧ vp_in (((21 : Int32) * ((pI_X12_must_68 n (qIm220_3_X12_tellRule_68 n I A J t) (qAm220_4_X12_tellRule_68 n I A J t) J t 4) 68 19)) + ((qA276_5_X12_tellRule_68 n I A J t) 76 (((pI_X12_must_68 n (qIm220_3_X12_tellRule_68 n I A J t) (qAm220_4_X12_tellRule_68 n I A J t) J t 4) 68 19)).toNatClampNeg)) 42)))) ∧ (¬ (px_X12_is_68 n (pI_X12_must_68 n (pI_X12_next_68 n (qIm6_X12_tellRule_68 n I A J t) (qA82_X12_tellRule_68 n I A J t) J t ) (qA82_X12_tellRule_68 n I A J t) J t 22) (qA106_X12_tellRule_68 n I A J t) J t 23) = 0 → pb_X12_next_68 n (pI_X12_must_68 n (pI_X12_next_68 n (qIm6_X12_tellRule_68 n I A J t) (qA82_X12_tellRule_68 n I A J t) J t ) (qA82_X12_tellRule_68 n I A J t) J t 22) (qA106_X12_tellRule_68 n I A J t) J t  ∧ pb_X12_must_68 n (pI_X12_next_68 n (pI_X12_must_68 n (pI_X12_next_68 n (qIm6_X12_tellRule_68 n I A J t) (qA82_X12_tellRule_68 n I A J t) J t ) (qA82_X12_tellRule_68 n I A J t) J t 22) (qA106_X12_tellRule_68 n I A J t) J t ) (qA106_X12_tellRule_68 n I A J t) J t 2 ∧ (((pI_X12_must_68 n (pI_X12_next_68 n (pI_X12_must_68 n (pI_X12_next_68 n (qIm6_X12_tellRule_68 n I A J t) (qA82_X12_tellRule_68 n I A J t) J t ) (qA82_X12_tellRule_68 n I A J t) J t 22) (qA106_X12_tellRule_68 n I A J t) J t ) (qA106_X12_tellRule_68 n I A J t) J t 2) 68 13) ≤ 0 → vp_in (q167_X12_tellRule_68 n I A J t) 403 ∧ vp_in (q70_X12_tellRule_68 n I A J t) 40 ∧ pb_X12_is_68 n (pI_X12_must_68 n (pI_X12_next_68 n (pI_X12_must_68 n (pI_X12_next_68 n (qIm6_X12_tellRule_68 n I A J t) (qA82_X12_tellRule_68 n I A J t) J t ) (qA82_X12_tellRule_68 n I A J t) J t 22) (qA106_X12_tellRule_68 n I A J t) J t ) (qA106_X12_tellRule_68 n I A J t) J t 2) (qA149_X12_tellRule_68 n I A J t) J t 24 ∧ ((px_X12_is_68 n (pI_X12_must_68 n (pI_X12_next_68 n (pI_X12_must_68 n (pI_X12_next_68 n (qIm6_X12_tellRule_68 n I A J t) (qA82_X12_tellRule_68 n I A J t) J t ) (qA82_X12_tellRule_68 n I A J t) J t 22) (qA106_X12_tellRule_68 n I A J t) J t ) (qA106_X12_tellRule_68 n I A J t) J t 2) (qA149_X12_tellRule_68 n I A J t) J t 24) = 0 → pb_X12_is_68 n (pI_X12_must_68 n (pI_X12_next_68 n (pI_X12_must_68 n (pI_X12_next_68 n (qIm6_X12_tellRule_68 n I A J t) (qA82_X12_tellRule_68 n I A J t) J t ) (qA82_X12_tellRule_68 n I A J t) J t 22) (qA106_X12_tellRule_68 n I A J t) J t ) (qA106_X12_tellRule_68 n I A J t) J t 2) (qA149_X12_tellRule_68 n I A J t) J t 25 ∧ (¬ (px_X12_is_68 n (pI_X12_must_68 n (pI_X12_next_68 n (pI_X12_must_68 n (pI_X12_next_68 n (qIm6_X12_tellRule_68 n I A J t) (qA82_X12_tellRule_68 n I A J t) J t ) (qA82_X12_tellRule_68 n I A J t) J t 22) (qA106_X12_tellRule_68 n I A J t) J t ) (qA106_X12_tellRule_68 n I A J t) J t 2) (qA149_X12_tellRule_68 n I A J t) J t 25) = 0 → pb_X12_next_68 n (pI_X12_must_68 n (pI_X12_next_68 n (pI_X12_must_68 n (pI_X12_next_68 n (qIm6_X12_tellRule_68 n I A J t) (qA82_X12_tellRule_68 n I A J t) J t ) (qA82_X12_tellRule_68 n I A J t) J t 22) (qA106_X12_tellRule_68 n I A J t) J t ) (qA106_X12_tellRule_68 n I A J t) J t 2) (qA149_X12_tellRule_68 n I A J t) J t  ∧ pb_X12_relation_68 n (pI_X12_next_68 n (pI_X12_must_68 n (pI_X12_next_68 n (pI_X12_must_68 n (pI_X12_next_68 n (qIm6_X12_tellRule_68 n I A J t) (qA82_X12_tellRule_68 n I A J t) J t ) (qA82_X12_tellRule_68 n I A J t) J t 22) (qA106_X12_tellRule_68 n I A J t) J t ) (qA106_X12_tellRule_68 n I A J t) J t 2) (qA149_X12_tellRule_68 n I A J t) J t ) (qA149_X12_tellRule_68 n I A J t) J t  ∧ lb_X12_tellRule_68_231_3 n I A J t n (pI_X12_relation_68 n (pI_X12_next_68 n (pI_X12_must_68 n (pI_X12_next_68 n (pI_X12_must_68 n (pI_X12_next_68 n (qIm6_X12_tellRule_68 n I A J t) (qA82_X12_tellRule_68 n I A J t) J t ) (qA82_X12_tellRule_68 n I A J t) J t 22) (qA106_X12_tellRule_68 n I A J t) J t ) (qA106_X12_tellRule_68 n I A J t) J t 2) (qA149_X12_tellRule_68 n I A J t) J t ) (qA149_X12_tellRule_68 n I A J t) J t ) (pA_X12_relation_68 n (pI_X12_next_68 n (pI_X12_must_68 n (pI_X12_next_68 n (pI_X12_must_68 n (pI_X12_next_68 n (qIm6_X12_tellRule_68 n I A J t) (qA82_X12_tellRule_68 n I A J t) J t ) (qA82_X12_tellRule_68 n I A J t) J t 22) (qA106_X12_tellRule_68 n I A J t) J t ) (qA106_X12_tellRule_68 n I A J t) J t 2) (qA149_X12_tellRule_68 n I A J t) J t ) (qA149_X12_tellRule_68 n I A J t) J t )) ∧ pb_X12_must_68 n (qIm220_9_X12_tellRule_68 n I A J t) (qAm220_10_X12_tellRule_68 n I A J t) J t 4 ∧ (((pI_X12_must_68 n (qIm220_9_X12_tellRule_68 n I A J t) (qAm220_10_X12_tellRule_68 n I A J t) J t 4) 68 13) ≤ 0 → vp_in ((pI_X12_must_68 n (qIm220_9_X12_tellRule_68 n I A J t) (qAm220_10_X12_tellRule_68 n I A J t) J t 4) 68 19) 2 ∧ vp_in ((pI_X12_must_68 n (qIm220_9_X12_tellRule_68 n I A J t) (qAm220_10_X12_tellRule_68 n I A J t) J t 4) 68 19) 2 ∧ vp_in ((pI_X12_must_68 n (qIm220_9_X12_tellRule_68 n I A J t) (qAm220_10_X12_tellRule_68 n I A J t) J t 4) 68 19) 2 ∧ vp_in ((pI_X12_must_68 n (qIm220_9_X12_tellRule_68 n I A J t) (qAm220_10_X12_tellRule_68 n I A J t) J t 4) 68 19) 2 ∧ vp_in (((21 : Int32) * ((pI_X12_must_68 n (qIm220_9_X12_tellRule_68 n I A J t) (qAm220_10_X12_tellRule_68 n I A J t) J t 4) 68 19)) + ((qA276_11_X12_tellRule_68 n I A J t) 76 (((pI_X12_must_68 n (qIm220_9_X12_tellRule_68 n I A J t) (qAm220_10_X12_tellRule_68 n I A J t) J t 4) 68 19)).toNatClampNeg)) 42)) ∧ (¬ (px_X12_is_68 n (pI_X12_must_68 n (pI_X12_next_68 n (pI_X12_must_68 n (pI_X12_next_68 n (qIm6_X12_tellRule_68 n I A J t) (qA82_X12_tellRule_68 n I A J t) J t ) (qA82_X12_tellRule_68 n I A J t) J t 22) (qA106_X12_tellRule_68 n I A J t) J t ) (qA106_X12_tellRule_68 n I A J t) J t 2) (qA149_X12_tellRule_68 n I A J t) J t 24) = 0 → pb_X12_next_68 n (pI_X12_must_68 n (pI_X12_next_68 n (pI_X12_must_68 n (pI_X12_next_68 n (qIm6_X12_tellRule_68 n I A J t) (qA82_X12_tellRule_68 n I A J t) J t ) (qA82_X12_tellRule_68 n I A J t) J t 22) (qA106_X12_tellRule_68 n I A J t) J t ) (qA106_X12_tellRule_68 n I A J t) J t 2) (qA149_X12_tellRule_68 n I A J t) J t  ∧ pb_X12_must_68 n (pI_X12_next_68 n (pI_X12_must_68 n (pI_X12_next_68 n (pI_X12_must_68 n (pI_X12_next_68 n (qIm6_X12_tellRule_68 n I A J t) (qA82_X12_tellRule_68 n I A J t) J t ) (qA82_X12_tellRule_68 n I A J t) J t 22) (qA106_X12_tellRule_68 n I A J t) J t ) (qA106_X12_tellRule_68 n I A J t) J t 2) (qA149_X12_tellRule_68 n I A J t) J t ) (qA149_X12_tellRule_68 n I A J t) J t 2 ∧ (((pI_X12_must_68 n (pI_X12_next_68 n (pI_X12_must_68 n (pI_X12_next_68 n (pI_X12_must_68 n (pI_X12_next_68 n (qIm6_X12_tellRule_68 n I A J t) (qA82_X12_tellRule_68 n I A J t) J t ) (qA82_X12_tellRule_68 n I A J t) J t 22) (qA106_X12_tellRule_68 n I A J t) J t ) (qA106_X12_tellRule_68 n I A J t) J t 2) (qA149_X12_tellRule_68 n I A J t) J t ) (qA149_X12_tellRule_68 n I A J t) J t 2) 68 13) ≤ 0 → vp_in (q167_13_X12_tellRule_68 n I A J t) 403 ∧ vp_in (q70_X12_tellRule_68 n I A J t) 40 ∧ vp_in (q70_X12_tellRule_68 n I A J t) 40 ∧ vp_in (q70_X12_tellRule_68 n I A J t) 40 ∧ (¬ ((qA192_14_X12_tellRule_68 n I A J t) 78 ((q70_X12_tellRule_68 n I A J t)).toNatClampNeg) < ((qA192_14_X12_tellRule_68 n I A J t) 79 ((q70_X12_tellRule_68 n I A J t)).toNatClampNeg) → pb_X12_wrong_68 n (pI_X12_must_68 n (pI_X12_next_68 n (pI_X12_must_68 n (pI_X12_next_68 n (pI_X12_must_68 n (pI_X12_next_68 n (qIm6_X12_tellRule_68 n I A J t) (qA82_X12_tellRule_68 n I A J t) J t ) (qA82_X12_tellRule_68 n I A J t) J t 22) (qA106_X12_tellRule_68 n I A J t) J t ) (qA106_X12_tellRule_68 n I A J t) J t 2) (qA149_X12_tellRule_68 n I A J t) J t ) (qA149_X12_tellRule_68 n I A J t) J t 2) (qA192_14_X12_tellRule_68 n I A J t) J t 5 (q167_13_X12_tellRule_68 n I A J t)) ∧ pb_X12_is_68 n (qIm205_15_X12_tellRule_68 n I A J t) (qA192_14_X12_tellRule_68 n I A J t) J t 25 ∧ (¬ (px_X12_is_68 n (qIm205_15_X12_tellRule_68 n I A J t) (qA192_14_X12_tellRule_68 n I A J t) J t 25) = 0 → pb_X12_next_68 n (qIm205_15_X12_tellRule_68 n I A J t) (qA192_14_X12_tellRule_68 n I A J t) J t  ∧ pb_X12_relation_68 n (pI_X12_next_68 n (qIm205_15_X12_tellRule_68 n I A J t) (qA192_14_X12_tellRule_68 n I A J t) J t ) (qA192_14_X12_tellRule_68 n I A J t) J t  ∧ lb_X12_tellRule_68_231_4 n I A J t n (pI_X12_relation_68 n (pI_X12_next_68 n (qIm205_15_X12_tellRule_68 n I A J t) (qA192_14_X12_tellRule_68 n I A J t) J t ) (qA192_14_X12_tellRule_68 n I A J t) J t ) (pA_X12_relation_68 n (pI_X12_next_68 n (qIm205_15_X12_tellRule_68 n I A J t) (qA192_14_X12_tellRule_68 n I A J t) J t ) (qA192_14_X12_tellRule_68 n I A J t) J t )) ∧ pb_X12_must_68 n (qIm220_18_X12_tellRule_68 n I A J t) (qAm220_19_X12_tellRule_68 n I A J t) J t 4 ∧ (((pI_X12_must_68 n (qIm220_18_X12_tellRule_68 n I A J t) (qAm220_19_X12_tellRule_68 n I A J t) J t 4) 68 13) ≤ 0 → vp_in ((pI_X12_must_68 n (qIm220_18_X12_tellRule_68 n I A J t) (qAm220_19_X12_tellRule_68 n I A J t) J t 4) 68 19) 2 ∧ vp_in ((pI_X12_must_68 n (qIm220_18_X12_tellRule_68 n I A J t) (qAm220_19_X12_tellRule_68 n I A J t) J t 4) 68 19) 2 ∧ vp_in ((pI_X12_must_68 n (qIm220_18_X12_tellRule_68 n I A J t) (qAm220_19_X12_tellRule_68 n I A J t) J t 4) 68 19) 2 ∧ vp_in ((pI_X12_must_68 n (qIm220_18_X12_tellRule_68 n I A J t) (qAm220_19_X12_tellRule_68 n I A J t) J t 4) 68 19) 2 ∧ vp_in (((21 : Int32) * ((pI_X12_must_68 n (qIm220_18_X12_tellRule_68 n I A J t) (qAm220_19_X12_tellRule_68 n I A J t) J t 4) 68 19)) + ((qA276_20_X12_tellRule_68 n I A J t) 76 (((pI_X12_must_68 n (qIm220_18_X12_tellRule_68 n I A J t) (qAm220_19_X12_tellRule_68 n I A J t) J t 4) 68 19)).toNatClampNeg)) 42))))))
def pI_X12_tellRule_68 (n : Nat) (I : Nat → Nat → Int32) (A : Nat → Nat → Int32) (J : Nat → Nat → Int64) (t : Bool × Bool) : Nat → Nat → Int32 := (if ((qIm6_X12_tellRule_68 n I A J t) 68 13) ≤ 0 then (if (px_X12_is_68 n (pI_X12_must_68 n (pI_X12_next_68 n (qIm6_X12_tellRule_68 n I A J t) (qA82_X12_tellRule_68 n I A J t) J t ) (qA82_X12_tellRule_68 n I A J t) J t 22) (qA106_X12_tellRule_68 n I A J t) J t 23) = 0 then (if (px_X12_is_68 n (pI_X12_must_68 n (pI_X12_next_68 n (qIm6_X12_tellRule_68 n I A J t) (qA82_X12_tellRule_68 n I A J t) J t ) (qA82_X12_tellRule_68 n I A J t) J t 22) (qA106_X12_tellRule_68 n I A J t) J t 24) = 0 then (pI_X12_must_68 n (qIm220_X12_tellRule_68 n I A J t) (qAm220_X12_tellRule_68 n I A J t) J t 4) else (if ((pI_X12_must_68 n (pI_X12_next_68 n (pI_X12_must_68 n (pI_X12_next_68 n (qIm6_X12_tellRule_68 n I A J t) (qA82_X12_tellRule_68 n I A J t) J t ) (qA82_X12_tellRule_68 n I A J t) J t 22) (qA106_X12_tellRule_68 n I A J t) J t ) (qA106_X12_tellRule_68 n I A J t) J t 2) 68 13) ≤ 0 then (pI_X12_must_68 n (qIm220_3_X12_tellRule_68 n I A J t) (qAm220_4_X12_tellRule_68 n I A J t) J t 4) else (pI_X12_must_68 n (pI_X12_next_68 n (pI_X12_must_68 n (pI_X12_next_68 n (qIm6_X12_tellRule_68 n I A J t) (qA82_X12_tellRule_68 n I A J t) J t ) (qA82_X12_tellRule_68 n I A J t) J t 22) (qA106_X12_tellRule_68 n I A J t) J t ) (qA106_X12_tellRule_68 n I A J t) J t 2))) else (if ((pI_X12_must_68 n (pI_X12_next_68 n (pI_X12_must_68 n (pI_X12_next_68 n (qIm6_X12_tellRule_68 n I A J t) (qA82_X12_tellRule_68 n I A J t) J t ) (qA82_X12_tellRule_68 n I A J t) J t 22) (qA106_X12_tellRule_68 n I A J t) J t ) (qA106_X12_tellRule_68 n I A J t) J t 2) 68 13) ≤ 0 then (if (px_X12_is_68 n (pI_X12_must_68 n (pI_X12_next_68 n (pI_X12_must_68 n (pI_X12_next_68 n (qIm6_X12_tellRule_68 n I A J t) (qA82_X12_tellRule_68 n I A J t) J t ) (qA82_X12_tellRule_68 n I A J t) J t 22) (qA106_X12_tellRule_68 n I A J t) J t ) (qA106_X12_tellRule_68 n I A J t) J t 2) (qA149_X12_tellRule_68 n I A J t) J t 24) = 0 then (pI_X12_must_68 n (qIm220_9_X12_tellRule_68 n I A J t) (qAm220_10_X12_tellRule_68 n I A J t) J t 4) else (if ((pI_X12_must_68 n (pI_X12_next_68 n (pI_X12_must_68 n (pI_X12_next_68 n (pI_X12_must_68 n (pI_X12_next_68 n (qIm6_X12_tellRule_68 n I A J t) (qA82_X12_tellRule_68 n I A J t) J t ) (qA82_X12_tellRule_68 n I A J t) J t 22) (qA106_X12_tellRule_68 n I A J t) J t ) (qA106_X12_tellRule_68 n I A J t) J t 2) (qA149_X12_tellRule_68 n I A J t) J t ) (qA149_X12_tellRule_68 n I A J t) J t 2) 68 13) ≤ 0 then (pI_X12_must_68 n (qIm220_18_X12_tellRule_68 n I A J t) (qAm220_19_X12_tellRule_68 n I A J t) J t 4) else (pI_X12_must_68 n (pI_X12_next_68 n (pI_X12_must_68 n (pI_X12_next_68 n (pI_X12_must_68 n (pI_X12_next_68 n (qIm6_X12_tellRule_68 n I A J t) (qA82_X12_tellRule_68 n I A J t) J t ) (qA82_X12_tellRule_68 n I A J t) J t 22) (qA106_X12_tellRule_68 n I A J t) J t ) (qA106_X12_tellRule_68 n I A J t) J t 2) (qA149_X12_tellRule_68 n I A J t) J t ) (qA149_X12_tellRule_68 n I A J t) J t 2))) else (pI_X12_must_68 n (pI_X12_next_68 n (pI_X12_must_68 n (pI_X12_next_68 n (qIm6_X12_tellRule_68 n I A J t) (qA82_X12_tellRule_68 n I A J t) J t ) (qA82_X12_tellRule_68 n I A J t) J t 22) (qA106_X12_tellRule_68 n I A J t) J t ) (qA106_X12_tellRule_68 n I A J t) J t 2))) else (qIm6_X12_tellRule_68 n I A J t))
def pA_X12_tellRule_68 (n : Nat) (I : Nat → Nat → Int32) (A : Nat → Nat → Int32) (J : Nat → Nat → Int64) (t : Bool × Bool) : Nat → Nat → Int32 := (if ((qIm6_X12_tellRule_68 n I A J t) 68 13) ≤ 0 then (if (px_X12_is_68 n (pI_X12_must_68 n (pI_X12_next_68 n (qIm6_X12_tellRule_68 n I A J t) (qA82_X12_tellRule_68 n I A J t) J t ) (qA82_X12_tellRule_68 n I A J t) J t 22) (qA106_X12_tellRule_68 n I A J t) J t 23) = 0 then (if (px_X12_is_68 n (pI_X12_must_68 n (pI_X12_next_68 n (qIm6_X12_tellRule_68 n I A J t) (qA82_X12_tellRule_68 n I A J t) J t ) (qA82_X12_tellRule_68 n I A J t) J t 22) (qA106_X12_tellRule_68 n I A J t) J t 24) = 0 then (if ((pI_X12_must_68 n (qIm220_X12_tellRule_68 n I A J t) (qAm220_X12_tellRule_68 n I A J t) J t 4) 68 13) ≤ 0 then (qA307_X12_tellRule_68 n I A J t) else (qAm220_X12_tellRule_68 n I A J t)) else (if ((pI_X12_must_68 n (pI_X12_next_68 n (pI_X12_must_68 n (pI_X12_next_68 n (qIm6_X12_tellRule_68 n I A J t) (qA82_X12_tellRule_68 n I A J t) J t ) (qA82_X12_tellRule_68 n I A J t) J t 22) (qA106_X12_tellRule_68 n I A J t) J t ) (qA106_X12_tellRule_68 n I A J t) J t 2) 68 13) ≤ 0 then (if ((pI_X12_must_68 n (qIm220_3_X12_tellRule_68 n I A J t) (qAm220_4_X12_tellRule_68 n I A J t) J t 4) 68 13) ≤ 0 then (qA307_6_X12_tellRule_68 n I A J t) else (qAm220_4_X12_tellRule_68 n I A J t)) else (qA106_X12_tellRule_68 n I A J t))) else (if ((pI_X12_must_68 n (pI_X12_next_68 n (pI_X12_must_68 n (pI_X12_next_68 n (qIm6_X12_tellRule_68 n I A J t) (qA82_X12_tellRule_68 n I A J t) J t ) (qA82_X12_tellRule_68 n I A J t) J t 22) (qA106_X12_tellRule_68 n I A J t) J t ) (qA106_X12_tellRule_68 n I A J t) J t 2) 68 13) ≤ 0 then (if (px_X12_is_68 n (pI_X12_must_68 n (pI_X12_next_68 n (pI_X12_must_68 n (pI_X12_next_68 n (qIm6_X12_tellRule_68 n I A J t) (qA82_X12_tellRule_68 n I A J t) J t ) (qA82_X12_tellRule_68 n I A J t) J t 22) (qA106_X12_tellRule_68 n I A J t) J t ) (qA106_X12_tellRule_68 n I A J t) J t 2) (qA149_X12_tellRule_68 n I A J t) J t 24) = 0 then (if ((pI_X12_must_68 n (qIm220_9_X12_tellRule_68 n I A J t) (qAm220_10_X12_tellRule_68 n I A J t) J t 4) 68 13) ≤ 0 then (qA307_12_X12_tellRule_68 n I A J t) else (qAm220_10_X12_tellRule_68 n I A J t)) else (if ((pI_X12_must_68 n (pI_X12_next_68 n (pI_X12_must_68 n (pI_X12_next_68 n (pI_X12_must_68 n (pI_X12_next_68 n (qIm6_X12_tellRule_68 n I A J t) (qA82_X12_tellRule_68 n I A J t) J t ) (qA82_X12_tellRule_68 n I A J t) J t 22) (qA106_X12_tellRule_68 n I A J t) J t ) (qA106_X12_tellRule_68 n I A J t) J t 2) (qA149_X12_tellRule_68 n I A J t) J t ) (qA149_X12_tellRule_68 n I A J t) J t 2) 68 13) ≤ 0 then (if ((pI_X12_must_68 n (qIm220_18_X12_tellRule_68 n I A J t) (qAm220_19_X12_tellRule_68 n I A J t) J t 4) 68 13) ≤ 0 then (qA307_21_X12_tellRule_68 n I A J t) else (qAm220_19_X12_tellRule_68 n I A J t)) else (qA149_X12_tellRule_68 n I A J t))) else (qA106_X12_tellRule_68 n I A J t))) else A)
set_option maxRecDepth 100000 in
set_option maxHeartbeats 4000000 in
theorem lt_X12_tellRule_68_231 (g : cw_G) (n : Nat) (I : Nat → Nat → Int32) (A : Nat → Nat → Int32) (J : Nat → Nat → Int64) (t : Bool × Bool) {Q : Option Value → cw_H → Prop} : ∀ (f : Nat) (I231 : Nat → Nat → Int32) (A231 : Nat → Nat → Int32) (w0 : Nat → Nat → Int32) (w1 : Nat → Nat → Int32), lb_X12_tellRule_68_231 n I A J t f I231 A231 → (lp_X12_tellRule_68_231 n I A J t f I231 A231).1 = w0 → (lp_X12_tellRule_68_231 n I A J t f I231 A231).2 = w1 → Ev g mX12_tellRule 0 0 251 [some (.ref (cw_z g + 68)), some (.int (q70_X12_tellRule_68 n I A J t)), none] [] (hp g w0 w1 J t) Q → Ev g mX12_tellRule 0 0 231 [some (.ref (cw_z g + 68)), some (.int (q70_X12_tellRule_68 n I A J t)), none] [] (hp g I231 A231 J t) Q := by
  intro f
  induction f with
  | zero =>
    intro I231 A231 w0 w1 hb
    exact hb.elim
  | succ f ih =>
    intro I231 A231 w0 w1 hb h0 h1 hE
    rw [lb_X12_tellRule_68_231] at hb
    rw [lp_X12_tellRule_68_231] at h0 h1
    refine ev_aload_n (pc := 231) dX12_tellRule_231 rfl ?_
    refine ev_bipush (pc := 232) (v := 26) dX12_tellRule_232 (by decide) ?_
    refine ev_Vi (pc := 234) dX12_tellRule_234 lk_X12_233 cd_X12_is ar_X12_is ⟨by decide, rfl, rfl⟩ (cv_X12_is_68 g n I231 A231 J t 26 hb.1) (show 68 < 120 by decide) rfl rfl rfl rfl (Nat.le_of_ble_eq_true rfl) ⟨by decide, by decide⟩ ?_
    replace hb := hb.2
    have hF_237 := hb
    refine ev_if_eq (pc := 237) (tgt := 251) dX12_tellRule_237 (by decide) (fun c_237 => ?_) (fun c_237 => ?_)
    · try simp only [if_pos c_237] at h0
      try simp only [if_pos c_237] at h1
      subst h0
      subst h1
      exact ev_loc hE cw_le0
    · have hb := hF_237 c_237
      try simp only [if_neg c_237] at h0
      try simp only [if_neg c_237] at h1
      refine ev_aload_n (pc := 240) dX12_tellRule_240 rfl ?_
      refine ev_Vv (pc := 241) dX12_tellRule_241 lk_X12_236 cd_X12_next ar_X12_next ⟨by decide, rfl, rfl⟩ (cv_X12_next_68 g n I231 A231 J t  hb.1) (show 68 < 120 by decide) rfl rfl rfl rfl (Nat.le_of_ble_eq_true rfl) ⟨by decide, by decide⟩ ?_
      replace hb := hb.2
      refine ev_aload_n (pc := 244) dX12_tellRule_244 rfl ?_
      refine ev_Vv (pc := 245) dX12_tellRule_245 lk_X12_264 cd_X12_relation ar_X12_relation ⟨by decide, rfl, rfl⟩ (cv_X12_relation_68 g n (pI_X12_next_68 n I231 A231 J t ) A231 J t  hb.1) (show 68 < 120 by decide) rfl rfl rfl rfl (Nat.le_of_ble_eq_true rfl) ⟨by decide, by decide⟩ ?_
      replace hb := hb.2
      refine ev_goto (pc := 248) (tgt := 231) dX12_tellRule_248 (by decide) ?_
      exact ev_loc (ih (pI_X12_relation_68 n (pI_X12_next_68 n I231 A231 J t ) A231 J t ) (pA_X12_relation_68 n (pI_X12_next_68 n I231 A231 J t ) A231 J t ) w0 w1 hb h0 h1 hE) cw_le0

set_option maxRecDepth 100000 in
set_option maxHeartbeats 4000000 in
theorem lt_X12_tellRule_68_231_2 (g : cw_G) (n : Nat) (I : Nat → Nat → Int32) (A : Nat → Nat → Int32) (J : Nat → Nat → Int64) (t : Bool × Bool) {Q : Option Value → cw_H → Prop} : ∀ (f : Nat) (I231 : Nat → Nat → Int32) (A231 : Nat → Nat → Int32) (w0 : Nat → Nat → Int32) (w1 : Nat → Nat → Int32), lb_X12_tellRule_68_231_2 n I A J t f I231 A231 → (lp_X12_tellRule_68_231_2 n I A J t f I231 A231).1 = w0 → (lp_X12_tellRule_68_231_2 n I A J t f I231 A231).2 = w1 → Ev g mX12_tellRule 0 0 251 [some (.ref (cw_z g + 68)), some (.int (q70_X12_tellRule_68 n I A J t)), some (.int (q167_X12_tellRule_68 n I A J t))] [] (hp g w0 w1 J t) Q → Ev g mX12_tellRule 0 0 231 [some (.ref (cw_z g + 68)), some (.int (q70_X12_tellRule_68 n I A J t)), some (.int (q167_X12_tellRule_68 n I A J t))] [] (hp g I231 A231 J t) Q := by
  intro f
  induction f with
  | zero =>
    intro I231 A231 w0 w1 hb
    exact hb.elim
  | succ f ih =>
    intro I231 A231 w0 w1 hb h0 h1 hE
    rw [lb_X12_tellRule_68_231_2] at hb
    rw [lp_X12_tellRule_68_231_2] at h0 h1
    refine ev_aload_n (pc := 231) dX12_tellRule_231 rfl ?_
    refine ev_bipush (pc := 232) (v := 26) dX12_tellRule_232 (by decide) ?_
    refine ev_Vi (pc := 234) dX12_tellRule_234 lk_X12_233 cd_X12_is ar_X12_is ⟨by decide, rfl, rfl⟩ (cv_X12_is_68 g n I231 A231 J t 26 hb.1) (show 68 < 120 by decide) rfl rfl rfl rfl (Nat.le_of_ble_eq_true rfl) ⟨by decide, by decide⟩ ?_
    replace hb := hb.2
    have hF_237 := hb
    refine ev_if_eq (pc := 237) (tgt := 251) dX12_tellRule_237 (by decide) (fun c_237 => ?_) (fun c_237 => ?_)
    · try simp only [if_pos c_237] at h0
      try simp only [if_pos c_237] at h1
      subst h0
      subst h1
      exact ev_loc hE cw_le0
    · have hb := hF_237 c_237
      try simp only [if_neg c_237] at h0
      try simp only [if_neg c_237] at h1
      refine ev_aload_n (pc := 240) dX12_tellRule_240 rfl ?_
      refine ev_Vv (pc := 241) dX12_tellRule_241 lk_X12_236 cd_X12_next ar_X12_next ⟨by decide, rfl, rfl⟩ (cv_X12_next_68 g n I231 A231 J t  hb.1) (show 68 < 120 by decide) rfl rfl rfl rfl (Nat.le_of_ble_eq_true rfl) ⟨by decide, by decide⟩ ?_
      replace hb := hb.2
      refine ev_aload_n (pc := 244) dX12_tellRule_244 rfl ?_
      refine ev_Vv (pc := 245) dX12_tellRule_245 lk_X12_264 cd_X12_relation ar_X12_relation ⟨by decide, rfl, rfl⟩ (cv_X12_relation_68 g n (pI_X12_next_68 n I231 A231 J t ) A231 J t  hb.1) (show 68 < 120 by decide) rfl rfl rfl rfl (Nat.le_of_ble_eq_true rfl) ⟨by decide, by decide⟩ ?_
      replace hb := hb.2
      refine ev_goto (pc := 248) (tgt := 231) dX12_tellRule_248 (by decide) ?_
      exact ev_loc (ih (pI_X12_relation_68 n (pI_X12_next_68 n I231 A231 J t ) A231 J t ) (pA_X12_relation_68 n (pI_X12_next_68 n I231 A231 J t ) A231 J t ) w0 w1 hb h0 h1 hE) cw_le0

set_option maxRecDepth 100000 in
set_option maxHeartbeats 4000000 in
theorem lt_X12_tellRule_68_231_3 (g : cw_G) (n : Nat) (I : Nat → Nat → Int32) (A : Nat → Nat → Int32) (J : Nat → Nat → Int64) (t : Bool × Bool) {Q : Option Value → cw_H → Prop} : ∀ (f : Nat) (I231 : Nat → Nat → Int32) (A231 : Nat → Nat → Int32) (w0 : Nat → Nat → Int32) (w1 : Nat → Nat → Int32), lb_X12_tellRule_68_231_3 n I A J t f I231 A231 → (lp_X12_tellRule_68_231_3 n I A J t f I231 A231).1 = w0 → (lp_X12_tellRule_68_231_3 n I A J t f I231 A231).2 = w1 → Ev g mX12_tellRule 0 0 251 [some (.ref (cw_z g + 68)), some (.int (q70_X12_tellRule_68 n I A J t)), some (.int (q167_X12_tellRule_68 n I A J t))] [] (hp g w0 w1 J t) Q → Ev g mX12_tellRule 0 0 231 [some (.ref (cw_z g + 68)), some (.int (q70_X12_tellRule_68 n I A J t)), some (.int (q167_X12_tellRule_68 n I A J t))] [] (hp g I231 A231 J t) Q := by
  intro f
  induction f with
  | zero =>
    intro I231 A231 w0 w1 hb
    exact hb.elim
  | succ f ih =>
    intro I231 A231 w0 w1 hb h0 h1 hE
    rw [lb_X12_tellRule_68_231_3] at hb
    rw [lp_X12_tellRule_68_231_3] at h0 h1
    refine ev_aload_n (pc := 231) dX12_tellRule_231 rfl ?_
    refine ev_bipush (pc := 232) (v := 26) dX12_tellRule_232 (by decide) ?_
    refine ev_Vi (pc := 234) dX12_tellRule_234 lk_X12_233 cd_X12_is ar_X12_is ⟨by decide, rfl, rfl⟩ (cv_X12_is_68 g n I231 A231 J t 26 hb.1) (show 68 < 120 by decide) rfl rfl rfl rfl (Nat.le_of_ble_eq_true rfl) ⟨by decide, by decide⟩ ?_
    replace hb := hb.2
    have hF_237 := hb
    refine ev_if_eq (pc := 237) (tgt := 251) dX12_tellRule_237 (by decide) (fun c_237 => ?_) (fun c_237 => ?_)
    · try simp only [if_pos c_237] at h0
      try simp only [if_pos c_237] at h1
      subst h0
      subst h1
      exact ev_loc hE cw_le0
    · have hb := hF_237 c_237
      try simp only [if_neg c_237] at h0
      try simp only [if_neg c_237] at h1
      refine ev_aload_n (pc := 240) dX12_tellRule_240 rfl ?_
      refine ev_Vv (pc := 241) dX12_tellRule_241 lk_X12_236 cd_X12_next ar_X12_next ⟨by decide, rfl, rfl⟩ (cv_X12_next_68 g n I231 A231 J t  hb.1) (show 68 < 120 by decide) rfl rfl rfl rfl (Nat.le_of_ble_eq_true rfl) ⟨by decide, by decide⟩ ?_
      replace hb := hb.2
      refine ev_aload_n (pc := 244) dX12_tellRule_244 rfl ?_
      refine ev_Vv (pc := 245) dX12_tellRule_245 lk_X12_264 cd_X12_relation ar_X12_relation ⟨by decide, rfl, rfl⟩ (cv_X12_relation_68 g n (pI_X12_next_68 n I231 A231 J t ) A231 J t  hb.1) (show 68 < 120 by decide) rfl rfl rfl rfl (Nat.le_of_ble_eq_true rfl) ⟨by decide, by decide⟩ ?_
      replace hb := hb.2
      refine ev_goto (pc := 248) (tgt := 231) dX12_tellRule_248 (by decide) ?_
      exact ev_loc (ih (pI_X12_relation_68 n (pI_X12_next_68 n I231 A231 J t ) A231 J t ) (pA_X12_relation_68 n (pI_X12_next_68 n I231 A231 J t ) A231 J t ) w0 w1 hb h0 h1 hE) cw_le0

set_option maxRecDepth 100000 in
set_option maxHeartbeats 4000000 in
theorem lt_X12_tellRule_68_231_4 (g : cw_G) (n : Nat) (I : Nat → Nat → Int32) (A : Nat → Nat → Int32) (J : Nat → Nat → Int64) (t : Bool × Bool) {Q : Option Value → cw_H → Prop} : ∀ (f : Nat) (I231 : Nat → Nat → Int32) (A231 : Nat → Nat → Int32) (w0 : Nat → Nat → Int32) (w1 : Nat → Nat → Int32), lb_X12_tellRule_68_231_4 n I A J t f I231 A231 → (lp_X12_tellRule_68_231_4 n I A J t f I231 A231).1 = w0 → (lp_X12_tellRule_68_231_4 n I A J t f I231 A231).2 = w1 → Ev g mX12_tellRule 0 0 251 [some (.ref (cw_z g + 68)), some (.int (q70_X12_tellRule_68 n I A J t)), some (.int (q167_13_X12_tellRule_68 n I A J t))] [] (hp g w0 w1 J t) Q → Ev g mX12_tellRule 0 0 231 [some (.ref (cw_z g + 68)), some (.int (q70_X12_tellRule_68 n I A J t)), some (.int (q167_13_X12_tellRule_68 n I A J t))] [] (hp g I231 A231 J t) Q := by
  intro f
  induction f with
  | zero =>
    intro I231 A231 w0 w1 hb
    exact hb.elim
  | succ f ih =>
    intro I231 A231 w0 w1 hb h0 h1 hE
    rw [lb_X12_tellRule_68_231_4] at hb
    rw [lp_X12_tellRule_68_231_4] at h0 h1
    refine ev_aload_n (pc := 231) dX12_tellRule_231 rfl ?_
    refine ev_bipush (pc := 232) (v := 26) dX12_tellRule_232 (by decide) ?_
    refine ev_Vi (pc := 234) dX12_tellRule_234 lk_X12_233 cd_X12_is ar_X12_is ⟨by decide, rfl, rfl⟩ (cv_X12_is_68 g n I231 A231 J t 26 hb.1) (show 68 < 120 by decide) rfl rfl rfl rfl (Nat.le_of_ble_eq_true rfl) ⟨by decide, by decide⟩ ?_
    replace hb := hb.2
    have hF_237 := hb
    refine ev_if_eq (pc := 237) (tgt := 251) dX12_tellRule_237 (by decide) (fun c_237 => ?_) (fun c_237 => ?_)
    · try simp only [if_pos c_237] at h0
      try simp only [if_pos c_237] at h1
      subst h0
      subst h1
      exact ev_loc hE cw_le0
    · have hb := hF_237 c_237
      try simp only [if_neg c_237] at h0
      try simp only [if_neg c_237] at h1
      refine ev_aload_n (pc := 240) dX12_tellRule_240 rfl ?_
      refine ev_Vv (pc := 241) dX12_tellRule_241 lk_X12_236 cd_X12_next ar_X12_next ⟨by decide, rfl, rfl⟩ (cv_X12_next_68 g n I231 A231 J t  hb.1) (show 68 < 120 by decide) rfl rfl rfl rfl (Nat.le_of_ble_eq_true rfl) ⟨by decide, by decide⟩ ?_
      replace hb := hb.2
      refine ev_aload_n (pc := 244) dX12_tellRule_244 rfl ?_
      refine ev_Vv (pc := 245) dX12_tellRule_245 lk_X12_264 cd_X12_relation ar_X12_relation ⟨by decide, rfl, rfl⟩ (cv_X12_relation_68 g n (pI_X12_next_68 n I231 A231 J t ) A231 J t  hb.1) (show 68 < 120 by decide) rfl rfl rfl rfl (Nat.le_of_ble_eq_true rfl) ⟨by decide, by decide⟩ ?_
      replace hb := hb.2
      refine ev_goto (pc := 248) (tgt := 231) dX12_tellRule_248 (by decide) ?_
      exact ev_loc (ih (pI_X12_relation_68 n (pI_X12_next_68 n I231 A231 J t ) A231 J t ) (pA_X12_relation_68 n (pI_X12_next_68 n I231 A231 J t ) A231 J t ) w0 w1 hb h0 h1 hE) cw_le0

set_option maxRecDepth 100000 in
set_option maxHeartbeats 4000000 in
theorem cv_X12_tellRule_68 (g : cw_G) (n : Nat) (I : Nat → Nat → Int32) (A : Nat → Nat → Int32) (J : Nat → Nat → Int64) (t : Bool × Bool) (hb : pb_X12_tellRule_68 n I A J t) : Cd g mX12_tellRule [(.ref (cw_z g + 68))] (hp g I A J t) none (hp g (pI_X12_tellRule_68 n I A J t) (pA_X12_tellRule_68 n I A J t) J t) := by
  unfold pb_X12_tellRule_68 at hb
  unfold pI_X12_tellRule_68 pA_X12_tellRule_68
  refine Cd.of rfl (Nat.le_of_ble_eq_true rfl) (ev_gen (fun Q hQ => ?_))
  refine ev_aload_n (pc := 0) dX12_tellRule_0 rfl ?_
  refine ev_bipush (pc := 1) (v := 20) dX12_tellRule_1 (by decide) ?_
  refine ev_Vi (pc := 3) dX12_tellRule_3 lk_X12_233 cd_X12_is ar_X12_is ⟨by decide, rfl, rfl⟩ (cv_X12_is_68 g n I A J t 20 hb.1) (show 68 < 120 by decide) rfl rfl rfl rfl (Nat.le_of_ble_eq_true rfl) ⟨by decide, by decide⟩ ?_
  replace hb := hb.2
  obtain ⟨hT_6, hF_6, hb⟩ := hb
  refine ev_cut (pj := 45) (Lj := [some (.ref (cw_z g + 68)), none, none]) (stj := []) (σj := hp g (qIm6_X12_tellRule_68 n I A J t) A J t) ?_ (fun hJ_6 => ?_)
  rotate_left
  · refine ev_if_ne (pc := 6) (tgt := 26) dX12_tellRule_6 (by decide) (fun c_6 => ?_) (fun c_6 => ?_)
    · have hb := hT_6 c_6
      refine ev_aload_n (pc := 26) dX12_tellRule_26 rfl ?_
      refine tv_getr (pc := 27) (d := 76) dX12_tellRule_27 fl_X12_40 (by decide) rfl rfl ?_
      refine ev_aload_n (pc := 30) dX12_tellRule_30 rfl ?_
      refine tv_geti (pc := 31) dX12_tellRule_31 fl_X12_248 (by decide) rfl rfl ?_
      refine ev_iald (pc := 34) dX12_tellRule_34 (by decide) rfl hb.1 ?_
      replace hb := hb.2
      refine ev_bipush (pc := 35) (v := 20) dX12_tellRule_35 (by decide) ?_
      have hF_37 := hb
      refine ev_cut (pj := 45) (Lj := [some (.ref (cw_z g + 68)), none, none]) (stj := []) (σj := hp g (qIm37_X12_tellRule_68 n I A J t) A J t) ?_ (fun hJ_37 => ?_)
      rotate_left
      · refine ev_icmp_ne (pc := 37) (tgt := 45) dX12_tellRule_37 (by decide) (fun c_37 => ?_) (fun c_37 => ?_)
        · simp only [qIm37_X12_tellRule_68, if_neg c_37] at hJ_37
          exact ev_loc hJ_37 cw_le0
        · have hb := hF_37 c_37
          refine ev_aload_n (pc := 40) dX12_tellRule_40 rfl ?_
          refine ev_iconst (pc := 41) (v := 2) dX12_tellRule_41 (by decide) ?_
          refine ev_Vv (pc := 42) dX12_tellRule_42 lk_X12_230 cd_X12_fail ar_X12_fail ⟨by decide, rfl, rfl⟩ (cv_X12_fail_68 g n I A J t 2 hb) (show 68 < 120 by decide) rfl rfl rfl rfl (Nat.le_of_ble_eq_true rfl) ⟨by decide, by decide⟩ ?_
          simp only [qIm37_X12_tellRule_68, if_pos c_37] at hJ_37
          exact ev_loc hJ_37 cw_le0
      simp only [qIm6_X12_tellRule_68, if_neg c_6] at hJ_6
      exact ev_loc hJ_6 cw_le0
    · have hb := hF_6 c_6
      refine ev_aload_n (pc := 9) dX12_tellRule_9 rfl ?_
      refine ev_bipush (pc := 10) (v := 21) dX12_tellRule_10 (by decide) ?_
      refine ev_Vi (pc := 12) dX12_tellRule_12 lk_X12_233 cd_X12_is ar_X12_is ⟨by decide, rfl, rfl⟩ (cv_X12_is_68 g n I A J t 21 hb.1) (show 68 < 120 by decide) rfl rfl rfl rfl (Nat.le_of_ble_eq_true rfl) ⟨by decide, by decide⟩ ?_
      replace hb := hb.2
      obtain ⟨hT_15, hF_15⟩ := hb
      refine ev_cut (pj := 45) (Lj := [some (.ref (cw_z g + 68)), none, none]) (stj := []) (σj := hp g (qIm15_X12_tellRule_68 n I A J t) A J t) ?_ (fun hJ_15 => ?_)
      rotate_left
      · refine ev_if_ne (pc := 15) (tgt := 26) dX12_tellRule_15 (by decide) (fun c_15 => ?_) (fun c_15 => ?_)
        · have hb := hT_15 c_15
          refine ev_aload_n (pc := 26) dX12_tellRule_26 rfl ?_
          refine tv_getr (pc := 27) (d := 76) dX12_tellRule_27 fl_X12_40 (by decide) rfl rfl ?_
          refine ev_aload_n (pc := 30) dX12_tellRule_30 rfl ?_
          refine tv_geti (pc := 31) dX12_tellRule_31 fl_X12_248 (by decide) rfl rfl ?_
          refine ev_iald (pc := 34) dX12_tellRule_34 (by decide) rfl hb.1 ?_
          replace hb := hb.2
          refine ev_bipush (pc := 35) (v := 20) dX12_tellRule_35 (by decide) ?_
          have hF_37 := hb
          refine ev_cut (pj := 45) (Lj := [some (.ref (cw_z g + 68)), none, none]) (stj := []) (σj := hp g (qIm37_X12_tellRule_68 n I A J t) A J t) ?_ (fun hJ_37 => ?_)
          rotate_left
          · refine ev_icmp_ne (pc := 37) (tgt := 45) dX12_tellRule_37 (by decide) (fun c_37 => ?_) (fun c_37 => ?_)
            · simp only [qIm37_X12_tellRule_68, if_neg c_37] at hJ_37
              exact ev_loc hJ_37 cw_le0
            · have hb := hF_37 c_37
              refine ev_aload_n (pc := 40) dX12_tellRule_40 rfl ?_
              refine ev_iconst (pc := 41) (v := 2) dX12_tellRule_41 (by decide) ?_
              refine ev_Vv (pc := 42) dX12_tellRule_42 lk_X12_230 cd_X12_fail ar_X12_fail ⟨by decide, rfl, rfl⟩ (cv_X12_fail_68 g n I A J t 2 hb) (show 68 < 120 by decide) rfl rfl rfl rfl (Nat.le_of_ble_eq_true rfl) ⟨by decide, by decide⟩ ?_
              simp only [qIm37_X12_tellRule_68, if_pos c_37] at hJ_37
              exact ev_loc hJ_37 cw_le0
          simp only [qIm15_X12_tellRule_68, if_neg c_15] at hJ_15
          exact ev_loc hJ_15 cw_le0
        · have hb := hF_15 c_15
          refine ev_aload_n (pc := 18) dX12_tellRule_18 rfl ?_
          refine ev_iconst (pc := 19) (v := 1) dX12_tellRule_19 (by decide) ?_
          refine ev_Vv (pc := 20) dX12_tellRule_20 lk_X12_230 cd_X12_fail ar_X12_fail ⟨by decide, rfl, rfl⟩ (cv_X12_fail_68 g n I A J t 1 hb) (show 68 < 120 by decide) rfl rfl rfl rfl (Nat.le_of_ble_eq_true rfl) ⟨by decide, by decide⟩ ?_
          refine ev_goto (pc := 23) (tgt := 45) dX12_tellRule_23 (by decide) ?_
          simp only [qIm15_X12_tellRule_68, if_pos c_15] at hJ_15
          exact ev_loc hJ_15 cw_le0
      simp only [qIm6_X12_tellRule_68, if_pos c_6] at hJ_6
      exact ev_loc hJ_6 cw_le0
  refine ev_aload_n (pc := 45) dX12_tellRule_45 rfl ?_
  refine tv_geti (pc := 46) dX12_tellRule_46 fl_X12_215 (by decide) rfl rfl ?_
  have hT_49 := hb
  refine ev_if_le (pc := 49) (tgt := 53) dX12_tellRule_49 (by decide) (fun c_49 => ?_) (fun c_49 => ?_)
  · have hb := hT_49 c_49
    try simp only [if_pos c_49] at hQ
    refine ev_bipush (pc := 53) (v := 20) dX12_tellRule_53 (by decide) ?_
    refine ev_aload_n (pc := 55) dX12_tellRule_55 rfl ?_
    refine tv_geti (pc := 56) dX12_tellRule_56 fl_X12_248 (by decide) rfl rfl ?_
    refine ev_imul (pc := 59) dX12_tellRule_59 ?_
    refine ev_aload_n (pc := 60) dX12_tellRule_60 rfl ?_
    refine tv_getr (pc := 61) (d := 76) dX12_tellRule_61 fl_X12_40 (by decide) rfl rfl ?_
    refine ev_aload_n (pc := 64) dX12_tellRule_64 rfl ?_
    refine tv_geti (pc := 65) dX12_tellRule_65 fl_X12_248 (by decide) rfl rfl ?_
    refine ev_iald (pc := 68) dX12_tellRule_68 (by decide) rfl hb.1 ?_
    replace hb := hb.2
    refine ev_iadd (pc := 69) dX12_tellRule_69 ?_
    refine ev_is (y := (q70_X12_tellRule_68 n I A J t)) rfl ?_
    refine ev_istore_1 (pc := 70) dX12_tellRule_70 (by decide) rfl ?_
    refine ev_aload_n (pc := 71) dX12_tellRule_71 rfl ?_
    refine tv_getr (pc := 72) (d := 77) dX12_tellRule_72 fl_X12_43 (by decide) rfl rfl ?_
    refine ev_iload_n (pc := 75) dX12_tellRule_75 rfl ?_
    refine ev_aload_n (pc := 76) dX12_tellRule_76 rfl ?_
    refine ev_bipush (pc := 77) (v := 20) dX12_tellRule_77 (by decide) ?_
    refine ev_Vi (pc := 79) dX12_tellRule_79 lk_X12_233 cd_X12_is ar_X12_is ⟨by decide, rfl, rfl⟩ (cv_X12_is_68 g n (qIm6_X12_tellRule_68 n I A J t) A J t 20 hb.1) (show 68 < 120 by decide) rfl rfl rfl rfl (Nat.le_of_ble_eq_true rfl) ⟨by decide, by decide⟩ ?_
    replace hb := hb.2
    refine tw_zast (pc := 82) (A2 := (qA82_X12_tellRule_68 n I A J t)) dX12_tellRule_82 (by decide) rfl hb.1 rfl ?_
    replace hb := hb.2
    refine ev_aload_n (pc := 83) dX12_tellRule_83 rfl ?_
    refine ev_Vv (pc := 84) dX12_tellRule_84 lk_X12_236 cd_X12_next ar_X12_next ⟨by decide, rfl, rfl⟩ (cv_X12_next_68 g n (qIm6_X12_tellRule_68 n I A J t) (qA82_X12_tellRule_68 n I A J t) J t  hb.1) (show 68 < 120 by decide) rfl rfl rfl rfl (Nat.le_of_ble_eq_true rfl) ⟨by decide, by decide⟩ ?_
    replace hb := hb.2
    refine ev_aload_n (pc := 87) dX12_tellRule_87 rfl ?_
    refine ev_bipush (pc := 88) (v := 22) dX12_tellRule_88 (by decide) ?_
    refine ev_Vv (pc := 90) dX12_tellRule_90 lk_X12_257 cd_X12_must ar_X12_must ⟨by decide, rfl, rfl⟩ (cv_X12_must_68 g n (pI_X12_next_68 n (qIm6_X12_tellRule_68 n I A J t) (qA82_X12_tellRule_68 n I A J t) J t ) (qA82_X12_tellRule_68 n I A J t) J t 22 hb.1) (show 68 < 120 by decide) rfl rfl rfl rfl (Nat.le_of_ble_eq_true rfl) ⟨by decide, by decide⟩ ?_
    replace hb := hb.2
    refine ev_aload_n (pc := 93) dX12_tellRule_93 rfl ?_
    refine tv_getr (pc := 94) (d := 78) dX12_tellRule_94 fl_X12_47 (by decide) rfl rfl ?_
    refine ev_iload_n (pc := 97) dX12_tellRule_97 rfl ?_
    refine ev_iconst (pc := 98) (v := 0) dX12_tellRule_98 (by decide) ?_
    refine tw_iast (pc := 99) (A2 := (qA99_X12_tellRule_68 n I A J t)) dX12_tellRule_99 (by decide) rfl hb.1 rfl ?_
    replace hb := hb.2
    refine ev_aload_n (pc := 100) dX12_tellRule_100 rfl ?_
    refine tv_getr (pc := 101) (d := 79) dX12_tellRule_101 fl_X12_50 (by decide) rfl rfl ?_
    refine ev_iload_n (pc := 104) dX12_tellRule_104 rfl ?_
    refine ev_iconst (pc := 105) (v := (-1)) dX12_tellRule_105 (by decide) ?_
    refine tw_iast (pc := 106) (A2 := (qA106_X12_tellRule_68 n I A J t)) dX12_tellRule_106 (by decide) rfl hb.1 rfl ?_
    replace hb := hb.2
    refine ev_aload_n (pc := 107) dX12_tellRule_107 rfl ?_
    refine ev_bipush (pc := 108) (v := 23) dX12_tellRule_108 (by decide) ?_
    refine ev_Vi (pc := 110) dX12_tellRule_110 lk_X12_233 cd_X12_is ar_X12_is ⟨by decide, rfl, rfl⟩ (cv_X12_is_68 g n (pI_X12_must_68 n (pI_X12_next_68 n (qIm6_X12_tellRule_68 n I A J t) (qA82_X12_tellRule_68 n I A J t) J t ) (qA82_X12_tellRule_68 n I A J t) J t 22) (qA106_X12_tellRule_68 n I A J t) J t 23 hb.1) (show 68 < 120 by decide) rfl rfl rfl rfl (Nat.le_of_ble_eq_true rfl) ⟨by decide, by decide⟩ ?_
    replace hb := hb.2
    obtain ⟨hT_113, hF_113⟩ := hb
    refine ev_if_eq (pc := 113) (tgt := 150) dX12_tellRule_113 (by decide) (fun c_113 => ?_) (fun c_113 => ?_)
    · have hb := hT_113 c_113
      try simp only [if_pos c_113] at hQ
      refine ev_aload_n (pc := 150) dX12_tellRule_150 rfl ?_
      refine ev_bipush (pc := 151) (v := 24) dX12_tellRule_151 (by decide) ?_
      refine ev_Vi (pc := 153) dX12_tellRule_153 lk_X12_233 cd_X12_is ar_X12_is ⟨by decide, rfl, rfl⟩ (cv_X12_is_68 g n (pI_X12_must_68 n (pI_X12_next_68 n (qIm6_X12_tellRule_68 n I A J t) (qA82_X12_tellRule_68 n I A J t) J t ) (qA82_X12_tellRule_68 n I A J t) J t 22) (qA106_X12_tellRule_68 n I A J t) J t 24 hb.1) (show 68 < 120 by decide) rfl rfl rfl rfl (Nat.le_of_ble_eq_true rfl) ⟨by decide, by decide⟩ ?_
      replace hb := hb.2
      obtain ⟨hT_156, hF_156⟩ := hb
      refine ev_if_eq (pc := 156) (tgt := 214) dX12_tellRule_156 (by decide) (fun c_156 => ?_) (fun c_156 => ?_)
      · have hb := hT_156 c_156
        try simp only [if_pos c_156] at hQ
        refine ev_aload_n (pc := 214) dX12_tellRule_214 rfl ?_
        refine ev_bipush (pc := 215) (v := 25) dX12_tellRule_215 (by decide) ?_
        refine ev_Vi (pc := 217) dX12_tellRule_217 lk_X12_233 cd_X12_is ar_X12_is ⟨by decide, rfl, rfl⟩ (cv_X12_is_68 g n (pI_X12_must_68 n (pI_X12_next_68 n (qIm6_X12_tellRule_68 n I A J t) (qA82_X12_tellRule_68 n I A J t) J t ) (qA82_X12_tellRule_68 n I A J t) J t 22) (qA106_X12_tellRule_68 n I A J t) J t 25 hb.1) (show 68 < 120 by decide) rfl rfl rfl rfl (Nat.le_of_ble_eq_true rfl) ⟨by decide, by decide⟩ ?_
        replace hb := hb.2
        obtain ⟨hF_220, hb⟩ := hb
        refine ev_cut (pj := 251) (Lj := [some (.ref (cw_z g + 68)), some (.int (q70_X12_tellRule_68 n I A J t)), none]) (stj := []) (σj := hp g (qIm220_X12_tellRule_68 n I A J t) (qAm220_X12_tellRule_68 n I A J t) J t) ?_ (fun hJ_220 => ?_)
        rotate_left
        · refine ev_if_eq (pc := 220) (tgt := 251) dX12_tellRule_220 (by decide) (fun c_220 => ?_) (fun c_220 => ?_)
          · simp only [qIm220_X12_tellRule_68, qAm220_X12_tellRule_68, if_pos c_220] at hJ_220
            exact ev_loc hJ_220 cw_le0
          · have hb := hF_220 c_220
            refine ev_aload_n (pc := 223) dX12_tellRule_223 rfl ?_
            refine ev_Vv (pc := 224) dX12_tellRule_224 lk_X12_236 cd_X12_next ar_X12_next ⟨by decide, rfl, rfl⟩ (cv_X12_next_68 g n (pI_X12_must_68 n (pI_X12_next_68 n (qIm6_X12_tellRule_68 n I A J t) (qA82_X12_tellRule_68 n I A J t) J t ) (qA82_X12_tellRule_68 n I A J t) J t 22) (qA106_X12_tellRule_68 n I A J t) J t  hb.1) (show 68 < 120 by decide) rfl rfl rfl rfl (Nat.le_of_ble_eq_true rfl) ⟨by decide, by decide⟩ ?_
            replace hb := hb.2
            refine ev_aload_n (pc := 227) dX12_tellRule_227 rfl ?_
            refine ev_Vv (pc := 228) dX12_tellRule_228 lk_X12_264 cd_X12_relation ar_X12_relation ⟨by decide, rfl, rfl⟩ (cv_X12_relation_68 g n (pI_X12_next_68 n (pI_X12_must_68 n (pI_X12_next_68 n (qIm6_X12_tellRule_68 n I A J t) (qA82_X12_tellRule_68 n I A J t) J t ) (qA82_X12_tellRule_68 n I A J t) J t 22) (qA106_X12_tellRule_68 n I A J t) J t ) (qA106_X12_tellRule_68 n I A J t) J t  hb.1) (show 68 < 120 by decide) rfl rfl rfl rfl (Nat.le_of_ble_eq_true rfl) ⟨by decide, by decide⟩ ?_
            replace hb := hb.2
            refine lt_X12_tellRule_68_231 g n I A J t n (pI_X12_relation_68 n (pI_X12_next_68 n (pI_X12_must_68 n (pI_X12_next_68 n (qIm6_X12_tellRule_68 n I A J t) (qA82_X12_tellRule_68 n I A J t) J t ) (qA82_X12_tellRule_68 n I A J t) J t 22) (qA106_X12_tellRule_68 n I A J t) J t ) (qA106_X12_tellRule_68 n I A J t) J t ) (pA_X12_relation_68 n (pI_X12_next_68 n (pI_X12_must_68 n (pI_X12_next_68 n (qIm6_X12_tellRule_68 n I A J t) (qA82_X12_tellRule_68 n I A J t) J t ) (qA82_X12_tellRule_68 n I A J t) J t 22) (qA106_X12_tellRule_68 n I A J t) J t ) (qA106_X12_tellRule_68 n I A J t) J t ) (qIw231_X12_tellRule_68 n I A J t) (qAw231_X12_tellRule_68 n I A J t) hb rfl rfl ?_
            simp only [qIm220_X12_tellRule_68, qAm220_X12_tellRule_68, if_neg c_220] at hJ_220
            exact ev_loc hJ_220 cw_le0
        refine ev_aload_n (pc := 251) dX12_tellRule_251 rfl ?_
        refine ev_iconst (pc := 252) (v := 4) dX12_tellRule_252 (by decide) ?_
        refine ev_Vv (pc := 253) dX12_tellRule_253 lk_X12_257 cd_X12_must ar_X12_must ⟨by decide, rfl, rfl⟩ (cv_X12_must_68 g n (qIm220_X12_tellRule_68 n I A J t) (qAm220_X12_tellRule_68 n I A J t) J t 4 hb.1) (show 68 < 120 by decide) rfl rfl rfl rfl (Nat.le_of_ble_eq_true rfl) ⟨by decide, by decide⟩ ?_
        replace hb := hb.2
        refine ev_aload_n (pc := 256) dX12_tellRule_256 rfl ?_
        refine tv_geti (pc := 257) dX12_tellRule_257 fl_X12_215 (by decide) rfl rfl ?_
        have hT_260 := hb
        refine ev_if_le (pc := 260) (tgt := 264) dX12_tellRule_260 (by decide) (fun c_260 => ?_) (fun c_260 => ?_)
        · have hb := hT_260 c_260
          try simp only [if_pos c_260] at hQ
          refine ev_aload_n (pc := 264) dX12_tellRule_264 rfl ?_
          refine tv_getr (pc := 265) (d := 76) dX12_tellRule_265 fl_X12_40 (by decide) rfl rfl ?_
          refine ev_aload_n (pc := 268) dX12_tellRule_268 rfl ?_
          refine tv_geti (pc := 269) dX12_tellRule_269 fl_X12_248 (by decide) rfl rfl ?_
          refine ev_dup2 (pc := 272) dX12_tellRule_272 rfl rfl ?_
          refine ev_iald (pc := 273) dX12_tellRule_273 (by decide) rfl hb.1 ?_
          replace hb := hb.2
          refine ev_iconst (pc := 274) (v := 1) dX12_tellRule_274 (by decide) ?_
          refine ev_iadd (pc := 275) dX12_tellRule_275 ?_
          refine tw_iast (pc := 276) (A2 := (qA276_X12_tellRule_68 n I A J t)) dX12_tellRule_276 (by decide) rfl hb.1 rfl ?_
          replace hb := hb.2
          refine ev_aload_n (pc := 277) dX12_tellRule_277 rfl ?_
          refine tv_getr (pc := 278) (d := 80) dX12_tellRule_278 fl_X12_53 (by decide) rfl rfl ?_
          refine ev_bipush (pc := 281) (v := 21) dX12_tellRule_281 (by decide) ?_
          refine ev_aload_n (pc := 283) dX12_tellRule_283 rfl ?_
          refine tv_geti (pc := 284) dX12_tellRule_284 fl_X12_248 (by decide) rfl rfl ?_
          refine ev_imul (pc := 287) dX12_tellRule_287 ?_
          refine ev_aload_n (pc := 288) dX12_tellRule_288 rfl ?_
          refine tv_getr (pc := 289) (d := 76) dX12_tellRule_289 fl_X12_40 (by decide) rfl rfl ?_
          refine ev_aload_n (pc := 292) dX12_tellRule_292 rfl ?_
          refine tv_geti (pc := 293) dX12_tellRule_293 fl_X12_248 (by decide) rfl rfl ?_
          refine ev_iald (pc := 296) dX12_tellRule_296 (by decide) rfl hb.1 ?_
          replace hb := hb.2
          refine ev_iadd (pc := 297) dX12_tellRule_297 ?_
          refine ev_aload_n (pc := 298) dX12_tellRule_298 rfl ?_
          refine tv_getr (pc := 299) (d := 81) dX12_tellRule_299 fl_X12_56 (by decide) rfl rfl ?_
          refine ev_aload_n (pc := 302) dX12_tellRule_302 rfl ?_
          refine tv_geti (pc := 303) dX12_tellRule_303 fl_X12_248 (by decide) rfl rfl ?_
          refine ev_iald (pc := 306) dX12_tellRule_306 (by decide) rfl hb.1 ?_
          replace hb := hb.2
          refine tw_iast (pc := 307) (A2 := (qA307_X12_tellRule_68 n I A J t)) dX12_tellRule_307 (by decide) rfl hb rfl ?_
          exact ev_vret (pc := 308) dX12_tellRule_308 rfl (by decide) (by decide) (hQ _ _ ⟨rfl, rfl⟩)
        · try simp only [if_neg c_260] at hQ
          exact ev_vret (pc := 263) dX12_tellRule_263 rfl (by decide) (by decide) (hQ _ _ ⟨rfl, rfl⟩)
      · have hb := hF_156 c_156
        try simp only [if_neg c_156] at hQ
        refine ev_aload_n (pc := 159) dX12_tellRule_159 rfl ?_
        refine ev_Vv (pc := 160) dX12_tellRule_160 lk_X12_236 cd_X12_next ar_X12_next ⟨by decide, rfl, rfl⟩ (cv_X12_next_68 g n (pI_X12_must_68 n (pI_X12_next_68 n (qIm6_X12_tellRule_68 n I A J t) (qA82_X12_tellRule_68 n I A J t) J t ) (qA82_X12_tellRule_68 n I A J t) J t 22) (qA106_X12_tellRule_68 n I A J t) J t  hb.1) (show 68 < 120 by decide) rfl rfl rfl rfl (Nat.le_of_ble_eq_true rfl) ⟨by decide, by decide⟩ ?_
        replace hb := hb.2
        refine ev_aload_n (pc := 163) dX12_tellRule_163 rfl ?_
        refine tv_geti (pc := 164) dX12_tellRule_164 fl_X12_218 (by decide) rfl rfl ?_
        refine ev_is (y := (q167_X12_tellRule_68 n I A J t)) rfl ?_
        refine ev_istore_2 (pc := 167) dX12_tellRule_167 (by decide) rfl ?_
        refine ev_aload_n (pc := 168) dX12_tellRule_168 rfl ?_
        refine ev_iconst (pc := 169) (v := 2) dX12_tellRule_169 (by decide) ?_
        refine ev_Vv (pc := 170) dX12_tellRule_170 lk_X12_257 cd_X12_must ar_X12_must ⟨by decide, rfl, rfl⟩ (cv_X12_must_68 g n (pI_X12_next_68 n (pI_X12_must_68 n (pI_X12_next_68 n (qIm6_X12_tellRule_68 n I A J t) (qA82_X12_tellRule_68 n I A J t) J t ) (qA82_X12_tellRule_68 n I A J t) J t 22) (qA106_X12_tellRule_68 n I A J t) J t ) (qA106_X12_tellRule_68 n I A J t) J t 2 hb.1) (show 68 < 120 by decide) rfl rfl rfl rfl (Nat.le_of_ble_eq_true rfl) ⟨by decide, by decide⟩ ?_
        replace hb := hb.2
        refine ev_aload_n (pc := 173) dX12_tellRule_173 rfl ?_
        refine tv_geti (pc := 174) dX12_tellRule_174 fl_X12_215 (by decide) rfl rfl ?_
        have hT_177 := hb
        refine ev_if_le (pc := 177) (tgt := 181) dX12_tellRule_177 (by decide) (fun c_177 => ?_) (fun c_177 => ?_)
        · have hb := hT_177 c_177
          try simp only [if_pos c_177] at hQ
          refine ev_aload_n (pc := 181) dX12_tellRule_181 rfl ?_
          refine tv_getr (pc := 182) (d := 79) dX12_tellRule_182 fl_X12_50 (by decide) rfl rfl ?_
          refine ev_iload_n (pc := 185) dX12_tellRule_185 rfl ?_
          refine ev_aload_n (pc := 186) dX12_tellRule_186 rfl ?_
          refine tv_getr (pc := 187) (d := 73) dX12_tellRule_187 fl_X12_27 (by decide) rfl rfl ?_
          refine ev_iload_n (pc := 190) dX12_tellRule_190 rfl ?_
          refine ev_iald (pc := 191) dX12_tellRule_191 (by decide) rfl hb.1 ?_
          replace hb := hb.2
          refine tw_iast (pc := 192) (A2 := (qA192_X12_tellRule_68 n I A J t)) dX12_tellRule_192 (by decide) rfl hb.1 rfl ?_
          replace hb := hb.2
          refine ev_aload_n (pc := 193) dX12_tellRule_193 rfl ?_
          refine tv_getr (pc := 194) (d := 79) dX12_tellRule_194 fl_X12_50 (by decide) rfl rfl ?_
          refine ev_iload_n (pc := 197) dX12_tellRule_197 rfl ?_
          refine ev_iald (pc := 198) dX12_tellRule_198 (by decide) rfl hb.1 ?_
          replace hb := hb.2
          refine ev_aload_n (pc := 199) dX12_tellRule_199 rfl ?_
          refine tv_getr (pc := 200) (d := 78) dX12_tellRule_200 fl_X12_47 (by decide) rfl rfl ?_
          refine ev_iload_n (pc := 203) dX12_tellRule_203 rfl ?_
          refine ev_iald (pc := 204) dX12_tellRule_204 (by decide) rfl hb.1 ?_
          replace hb := hb.2
          obtain ⟨hF_205, hb⟩ := hb
          refine ev_cut (pj := 214) (Lj := [some (.ref (cw_z g + 68)), some (.int (q70_X12_tellRule_68 n I A J t)), some (.int (q167_X12_tellRule_68 n I A J t))]) (stj := []) (σj := hp g (qIm205_X12_tellRule_68 n I A J t) (qA192_X12_tellRule_68 n I A J t) J t) ?_ (fun hJ_205 => ?_)
          rotate_left
          · refine ev_icmp_gt (pc := 205) (tgt := 214) dX12_tellRule_205 (by decide) (fun c_205 => ?_) (fun c_205 => ?_)
            · simp only [qIm205_X12_tellRule_68, if_pos c_205] at hJ_205
              exact ev_loc hJ_205 cw_le0
            · have hb := hF_205 c_205
              refine ev_aload_n (pc := 208) dX12_tellRule_208 rfl ?_
              refine ev_iconst (pc := 209) (v := 5) dX12_tellRule_209 (by decide) ?_
              refine ev_iload_n (pc := 210) dX12_tellRule_210 rfl ?_
              refine ev_Vv (pc := 211) dX12_tellRule_211 lk_X12_260 cd_X12_wrong ar_X12_wrong ⟨by decide, rfl, rfl⟩ (cv_X12_wrong_68 g n (pI_X12_must_68 n (pI_X12_next_68 n (pI_X12_must_68 n (pI_X12_next_68 n (qIm6_X12_tellRule_68 n I A J t) (qA82_X12_tellRule_68 n I A J t) J t ) (qA82_X12_tellRule_68 n I A J t) J t 22) (qA106_X12_tellRule_68 n I A J t) J t ) (qA106_X12_tellRule_68 n I A J t) J t 2) (qA192_X12_tellRule_68 n I A J t) J t 5 (q167_X12_tellRule_68 n I A J t) hb) (show 68 < 120 by decide) rfl rfl rfl rfl (Nat.le_of_ble_eq_true rfl) ⟨by decide, by decide⟩ ?_
              simp only [qIm205_X12_tellRule_68, if_neg c_205] at hJ_205
              exact ev_loc hJ_205 cw_le0
          refine ev_aload_n (pc := 214) dX12_tellRule_214 rfl ?_
          refine ev_bipush (pc := 215) (v := 25) dX12_tellRule_215 (by decide) ?_
          refine ev_Vi (pc := 217) dX12_tellRule_217 lk_X12_233 cd_X12_is ar_X12_is ⟨by decide, rfl, rfl⟩ (cv_X12_is_68 g n (qIm205_X12_tellRule_68 n I A J t) (qA192_X12_tellRule_68 n I A J t) J t 25 hb.1) (show 68 < 120 by decide) rfl rfl rfl rfl (Nat.le_of_ble_eq_true rfl) ⟨by decide, by decide⟩ ?_
          replace hb := hb.2
          obtain ⟨hF_220, hb⟩ := hb
          refine ev_cut (pj := 251) (Lj := [some (.ref (cw_z g + 68)), some (.int (q70_X12_tellRule_68 n I A J t)), some (.int (q167_X12_tellRule_68 n I A J t))]) (stj := []) (σj := hp g (qIm220_3_X12_tellRule_68 n I A J t) (qAm220_4_X12_tellRule_68 n I A J t) J t) ?_ (fun hJ_220 => ?_)
          rotate_left
          · refine ev_if_eq (pc := 220) (tgt := 251) dX12_tellRule_220 (by decide) (fun c_220 => ?_) (fun c_220 => ?_)
            · simp only [qIm220_3_X12_tellRule_68, qAm220_4_X12_tellRule_68, if_pos c_220] at hJ_220
              exact ev_loc hJ_220 cw_le0
            · have hb := hF_220 c_220
              refine ev_aload_n (pc := 223) dX12_tellRule_223 rfl ?_
              refine ev_Vv (pc := 224) dX12_tellRule_224 lk_X12_236 cd_X12_next ar_X12_next ⟨by decide, rfl, rfl⟩ (cv_X12_next_68 g n (qIm205_X12_tellRule_68 n I A J t) (qA192_X12_tellRule_68 n I A J t) J t  hb.1) (show 68 < 120 by decide) rfl rfl rfl rfl (Nat.le_of_ble_eq_true rfl) ⟨by decide, by decide⟩ ?_
              replace hb := hb.2
              refine ev_aload_n (pc := 227) dX12_tellRule_227 rfl ?_
              refine ev_Vv (pc := 228) dX12_tellRule_228 lk_X12_264 cd_X12_relation ar_X12_relation ⟨by decide, rfl, rfl⟩ (cv_X12_relation_68 g n (pI_X12_next_68 n (qIm205_X12_tellRule_68 n I A J t) (qA192_X12_tellRule_68 n I A J t) J t ) (qA192_X12_tellRule_68 n I A J t) J t  hb.1) (show 68 < 120 by decide) rfl rfl rfl rfl (Nat.le_of_ble_eq_true rfl) ⟨by decide, by decide⟩ ?_
              replace hb := hb.2
              refine lt_X12_tellRule_68_231_2 g n I A J t n (pI_X12_relation_68 n (pI_X12_next_68 n (qIm205_X12_tellRule_68 n I A J t) (qA192_X12_tellRule_68 n I A J t) J t ) (qA192_X12_tellRule_68 n I A J t) J t ) (pA_X12_relation_68 n (pI_X12_next_68 n (qIm205_X12_tellRule_68 n I A J t) (qA192_X12_tellRule_68 n I A J t) J t ) (qA192_X12_tellRule_68 n I A J t) J t ) (qIw231_1_X12_tellRule_68 n I A J t) (qAw231_2_X12_tellRule_68 n I A J t) hb rfl rfl ?_
              simp only [qIm220_3_X12_tellRule_68, qAm220_4_X12_tellRule_68, if_neg c_220] at hJ_220
              exact ev_loc hJ_220 cw_le0
          refine ev_aload_n (pc := 251) dX12_tellRule_251 rfl ?_
          refine ev_iconst (pc := 252) (v := 4) dX12_tellRule_252 (by decide) ?_
          refine ev_Vv (pc := 253) dX12_tellRule_253 lk_X12_257 cd_X12_must ar_X12_must ⟨by decide, rfl, rfl⟩ (cv_X12_must_68 g n (qIm220_3_X12_tellRule_68 n I A J t) (qAm220_4_X12_tellRule_68 n I A J t) J t 4 hb.1) (show 68 < 120 by decide) rfl rfl rfl rfl (Nat.le_of_ble_eq_true rfl) ⟨by decide, by decide⟩ ?_
          replace hb := hb.2
          refine ev_aload_n (pc := 256) dX12_tellRule_256 rfl ?_
          refine tv_geti (pc := 257) dX12_tellRule_257 fl_X12_215 (by decide) rfl rfl ?_
          have hT_260 := hb
          refine ev_if_le (pc := 260) (tgt := 264) dX12_tellRule_260 (by decide) (fun c_260 => ?_) (fun c_260 => ?_)
          · have hb := hT_260 c_260
            try simp only [if_pos c_260] at hQ
            refine ev_aload_n (pc := 264) dX12_tellRule_264 rfl ?_
            refine tv_getr (pc := 265) (d := 76) dX12_tellRule_265 fl_X12_40 (by decide) rfl rfl ?_
            refine ev_aload_n (pc := 268) dX12_tellRule_268 rfl ?_
            refine tv_geti (pc := 269) dX12_tellRule_269 fl_X12_248 (by decide) rfl rfl ?_
            refine ev_dup2 (pc := 272) dX12_tellRule_272 rfl rfl ?_
            refine ev_iald (pc := 273) dX12_tellRule_273 (by decide) rfl hb.1 ?_
            replace hb := hb.2
            refine ev_iconst (pc := 274) (v := 1) dX12_tellRule_274 (by decide) ?_
            refine ev_iadd (pc := 275) dX12_tellRule_275 ?_
            refine tw_iast (pc := 276) (A2 := (qA276_5_X12_tellRule_68 n I A J t)) dX12_tellRule_276 (by decide) rfl hb.1 rfl ?_
            replace hb := hb.2
            refine ev_aload_n (pc := 277) dX12_tellRule_277 rfl ?_
            refine tv_getr (pc := 278) (d := 80) dX12_tellRule_278 fl_X12_53 (by decide) rfl rfl ?_
            refine ev_bipush (pc := 281) (v := 21) dX12_tellRule_281 (by decide) ?_
            refine ev_aload_n (pc := 283) dX12_tellRule_283 rfl ?_
            refine tv_geti (pc := 284) dX12_tellRule_284 fl_X12_248 (by decide) rfl rfl ?_
            refine ev_imul (pc := 287) dX12_tellRule_287 ?_
            refine ev_aload_n (pc := 288) dX12_tellRule_288 rfl ?_
            refine tv_getr (pc := 289) (d := 76) dX12_tellRule_289 fl_X12_40 (by decide) rfl rfl ?_
            refine ev_aload_n (pc := 292) dX12_tellRule_292 rfl ?_
            refine tv_geti (pc := 293) dX12_tellRule_293 fl_X12_248 (by decide) rfl rfl ?_
            refine ev_iald (pc := 296) dX12_tellRule_296 (by decide) rfl hb.1 ?_
            replace hb := hb.2
            refine ev_iadd (pc := 297) dX12_tellRule_297 ?_
            refine ev_aload_n (pc := 298) dX12_tellRule_298 rfl ?_
            refine tv_getr (pc := 299) (d := 81) dX12_tellRule_299 fl_X12_56 (by decide) rfl rfl ?_
            refine ev_aload_n (pc := 302) dX12_tellRule_302 rfl ?_
            refine tv_geti (pc := 303) dX12_tellRule_303 fl_X12_248 (by decide) rfl rfl ?_
            refine ev_iald (pc := 306) dX12_tellRule_306 (by decide) rfl hb.1 ?_
            replace hb := hb.2
            refine tw_iast (pc := 307) (A2 := (qA307_6_X12_tellRule_68 n I A J t)) dX12_tellRule_307 (by decide) rfl hb rfl ?_
            exact ev_vret (pc := 308) dX12_tellRule_308 rfl (by decide) (by decide) (hQ _ _ ⟨rfl, rfl⟩)
          · try simp only [if_neg c_260] at hQ
            exact ev_vret (pc := 263) dX12_tellRule_263 rfl (by decide) (by decide) (hQ _ _ ⟨rfl, rfl⟩)
        · try simp only [if_neg c_177] at hQ
          exact ev_vret (pc := 180) dX12_tellRule_180 rfl (by decide) (by decide) (hQ _ _ ⟨rfl, rfl⟩)
    · have hb := hF_113 c_113
      try simp only [if_neg c_113] at hQ
      refine ev_aload_n (pc := 116) dX12_tellRule_116 rfl ?_
      refine ev_Vv (pc := 117) dX12_tellRule_117 lk_X12_236 cd_X12_next ar_X12_next ⟨by decide, rfl, rfl⟩ (cv_X12_next_68 g n (pI_X12_must_68 n (pI_X12_next_68 n (qIm6_X12_tellRule_68 n I A J t) (qA82_X12_tellRule_68 n I A J t) J t ) (qA82_X12_tellRule_68 n I A J t) J t 22) (qA106_X12_tellRule_68 n I A J t) J t  hb.1) (show 68 < 120 by decide) rfl rfl rfl rfl (Nat.le_of_ble_eq_true rfl) ⟨by decide, by decide⟩ ?_
      replace hb := hb.2
      refine ev_aload_n (pc := 120) dX12_tellRule_120 rfl ?_
      refine tv_geti (pc := 121) dX12_tellRule_121 fl_X12_218 (by decide) rfl rfl ?_
      refine ev_is (y := (q167_X12_tellRule_68 n I A J t)) rfl ?_
      refine ev_istore_2 (pc := 124) dX12_tellRule_124 (by decide) rfl ?_
      refine ev_aload_n (pc := 125) dX12_tellRule_125 rfl ?_
      refine ev_iconst (pc := 126) (v := 2) dX12_tellRule_126 (by decide) ?_
      refine ev_Vv (pc := 127) dX12_tellRule_127 lk_X12_257 cd_X12_must ar_X12_must ⟨by decide, rfl, rfl⟩ (cv_X12_must_68 g n (pI_X12_next_68 n (pI_X12_must_68 n (pI_X12_next_68 n (qIm6_X12_tellRule_68 n I A J t) (qA82_X12_tellRule_68 n I A J t) J t ) (qA82_X12_tellRule_68 n I A J t) J t 22) (qA106_X12_tellRule_68 n I A J t) J t ) (qA106_X12_tellRule_68 n I A J t) J t 2 hb.1) (show 68 < 120 by decide) rfl rfl rfl rfl (Nat.le_of_ble_eq_true rfl) ⟨by decide, by decide⟩ ?_
      replace hb := hb.2
      refine ev_aload_n (pc := 130) dX12_tellRule_130 rfl ?_
      refine tv_geti (pc := 131) dX12_tellRule_131 fl_X12_215 (by decide) rfl rfl ?_
      have hT_134 := hb
      refine ev_if_le (pc := 134) (tgt := 138) dX12_tellRule_134 (by decide) (fun c_134 => ?_) (fun c_134 => ?_)
      · have hb := hT_134 c_134
        try simp only [if_pos c_134] at hQ
        refine ev_aload_n (pc := 138) dX12_tellRule_138 rfl ?_
        refine tv_getr (pc := 139) (d := 78) dX12_tellRule_139 fl_X12_47 (by decide) rfl rfl ?_
        refine ev_iload_n (pc := 142) dX12_tellRule_142 rfl ?_
        refine ev_aload_n (pc := 143) dX12_tellRule_143 rfl ?_
        refine tv_getr (pc := 144) (d := 73) dX12_tellRule_144 fl_X12_27 (by decide) rfl rfl ?_
        refine ev_iload_n (pc := 147) dX12_tellRule_147 rfl ?_
        refine ev_iald (pc := 148) dX12_tellRule_148 (by decide) rfl hb.1 ?_
        replace hb := hb.2
        refine tw_iast (pc := 149) (A2 := (qA149_X12_tellRule_68 n I A J t)) dX12_tellRule_149 (by decide) rfl hb.1 rfl ?_
        replace hb := hb.2
        refine ev_aload_n (pc := 150) dX12_tellRule_150 rfl ?_
        refine ev_bipush (pc := 151) (v := 24) dX12_tellRule_151 (by decide) ?_
        refine ev_Vi (pc := 153) dX12_tellRule_153 lk_X12_233 cd_X12_is ar_X12_is ⟨by decide, rfl, rfl⟩ (cv_X12_is_68 g n (pI_X12_must_68 n (pI_X12_next_68 n (pI_X12_must_68 n (pI_X12_next_68 n (qIm6_X12_tellRule_68 n I A J t) (qA82_X12_tellRule_68 n I A J t) J t ) (qA82_X12_tellRule_68 n I A J t) J t 22) (qA106_X12_tellRule_68 n I A J t) J t ) (qA106_X12_tellRule_68 n I A J t) J t 2) (qA149_X12_tellRule_68 n I A J t) J t 24 hb.1) (show 68 < 120 by decide) rfl rfl rfl rfl (Nat.le_of_ble_eq_true rfl) ⟨by decide, by decide⟩ ?_
        replace hb := hb.2
        obtain ⟨hT_156, hF_156⟩ := hb
        refine ev_if_eq (pc := 156) (tgt := 214) dX12_tellRule_156 (by decide) (fun c_156 => ?_) (fun c_156 => ?_)
        · have hb := hT_156 c_156
          try simp only [if_pos c_156] at hQ
          refine ev_aload_n (pc := 214) dX12_tellRule_214 rfl ?_
          refine ev_bipush (pc := 215) (v := 25) dX12_tellRule_215 (by decide) ?_
          refine ev_Vi (pc := 217) dX12_tellRule_217 lk_X12_233 cd_X12_is ar_X12_is ⟨by decide, rfl, rfl⟩ (cv_X12_is_68 g n (pI_X12_must_68 n (pI_X12_next_68 n (pI_X12_must_68 n (pI_X12_next_68 n (qIm6_X12_tellRule_68 n I A J t) (qA82_X12_tellRule_68 n I A J t) J t ) (qA82_X12_tellRule_68 n I A J t) J t 22) (qA106_X12_tellRule_68 n I A J t) J t ) (qA106_X12_tellRule_68 n I A J t) J t 2) (qA149_X12_tellRule_68 n I A J t) J t 25 hb.1) (show 68 < 120 by decide) rfl rfl rfl rfl (Nat.le_of_ble_eq_true rfl) ⟨by decide, by decide⟩ ?_
          replace hb := hb.2
          obtain ⟨hF_220, hb⟩ := hb
          refine ev_cut (pj := 251) (Lj := [some (.ref (cw_z g + 68)), some (.int (q70_X12_tellRule_68 n I A J t)), some (.int (q167_X12_tellRule_68 n I A J t))]) (stj := []) (σj := hp g (qIm220_9_X12_tellRule_68 n I A J t) (qAm220_10_X12_tellRule_68 n I A J t) J t) ?_ (fun hJ_220 => ?_)
          rotate_left
          · refine ev_if_eq (pc := 220) (tgt := 251) dX12_tellRule_220 (by decide) (fun c_220 => ?_) (fun c_220 => ?_)
            · simp only [qIm220_9_X12_tellRule_68, qAm220_10_X12_tellRule_68, if_pos c_220] at hJ_220
              exact ev_loc hJ_220 cw_le0
            · have hb := hF_220 c_220
              refine ev_aload_n (pc := 223) dX12_tellRule_223 rfl ?_
              refine ev_Vv (pc := 224) dX12_tellRule_224 lk_X12_236 cd_X12_next ar_X12_next ⟨by decide, rfl, rfl⟩ (cv_X12_next_68 g n (pI_X12_must_68 n (pI_X12_next_68 n (pI_X12_must_68 n (pI_X12_next_68 n (qIm6_X12_tellRule_68 n I A J t) (qA82_X12_tellRule_68 n I A J t) J t ) (qA82_X12_tellRule_68 n I A J t) J t 22) (qA106_X12_tellRule_68 n I A J t) J t ) (qA106_X12_tellRule_68 n I A J t) J t 2) (qA149_X12_tellRule_68 n I A J t) J t  hb.1) (show 68 < 120 by decide) rfl rfl rfl rfl (Nat.le_of_ble_eq_true rfl) ⟨by decide, by decide⟩ ?_
              replace hb := hb.2
              refine ev_aload_n (pc := 227) dX12_tellRule_227 rfl ?_
              refine ev_Vv (pc := 228) dX12_tellRule_228 lk_X12_264 cd_X12_relation ar_X12_relation ⟨by decide, rfl, rfl⟩ (cv_X12_relation_68 g n (pI_X12_next_68 n (pI_X12_must_68 n (pI_X12_next_68 n (pI_X12_must_68 n (pI_X12_next_68 n (qIm6_X12_tellRule_68 n I A J t) (qA82_X12_tellRule_68 n I A J t) J t ) (qA82_X12_tellRule_68 n I A J t) J t 22) (qA106_X12_tellRule_68 n I A J t) J t ) (qA106_X12_tellRule_68 n I A J t) J t 2) (qA149_X12_tellRule_68 n I A J t) J t ) (qA149_X12_tellRule_68 n I A J t) J t  hb.1) (show 68 < 120 by decide) rfl rfl rfl rfl (Nat.le_of_ble_eq_true rfl) ⟨by decide, by decide⟩ ?_
              replace hb := hb.2
              refine lt_X12_tellRule_68_231_3 g n I A J t n (pI_X12_relation_68 n (pI_X12_next_68 n (pI_X12_must_68 n (pI_X12_next_68 n (pI_X12_must_68 n (pI_X12_next_68 n (qIm6_X12_tellRule_68 n I A J t) (qA82_X12_tellRule_68 n I A J t) J t ) (qA82_X12_tellRule_68 n I A J t) J t 22) (qA106_X12_tellRule_68 n I A J t) J t ) (qA106_X12_tellRule_68 n I A J t) J t 2) (qA149_X12_tellRule_68 n I A J t) J t ) (qA149_X12_tellRule_68 n I A J t) J t ) (pA_X12_relation_68 n (pI_X12_next_68 n (pI_X12_must_68 n (pI_X12_next_68 n (pI_X12_must_68 n (pI_X12_next_68 n (qIm6_X12_tellRule_68 n I A J t) (qA82_X12_tellRule_68 n I A J t) J t ) (qA82_X12_tellRule_68 n I A J t) J t 22) (qA106_X12_tellRule_68 n I A J t) J t ) (qA106_X12_tellRule_68 n I A J t) J t 2) (qA149_X12_tellRule_68 n I A J t) J t ) (qA149_X12_tellRule_68 n I A J t) J t ) (qIw231_7_X12_tellRule_68 n I A J t) (qAw231_8_X12_tellRule_68 n I A J t) hb rfl rfl ?_
              simp only [qIm220_9_X12_tellRule_68, qAm220_10_X12_tellRule_68, if_neg c_220] at hJ_220
              exact ev_loc hJ_220 cw_le0
          refine ev_aload_n (pc := 251) dX12_tellRule_251 rfl ?_
          refine ev_iconst (pc := 252) (v := 4) dX12_tellRule_252 (by decide) ?_
          refine ev_Vv (pc := 253) dX12_tellRule_253 lk_X12_257 cd_X12_must ar_X12_must ⟨by decide, rfl, rfl⟩ (cv_X12_must_68 g n (qIm220_9_X12_tellRule_68 n I A J t) (qAm220_10_X12_tellRule_68 n I A J t) J t 4 hb.1) (show 68 < 120 by decide) rfl rfl rfl rfl (Nat.le_of_ble_eq_true rfl) ⟨by decide, by decide⟩ ?_
          replace hb := hb.2
          refine ev_aload_n (pc := 256) dX12_tellRule_256 rfl ?_
          refine tv_geti (pc := 257) dX12_tellRule_257 fl_X12_215 (by decide) rfl rfl ?_
          have hT_260 := hb
          refine ev_if_le (pc := 260) (tgt := 264) dX12_tellRule_260 (by decide) (fun c_260 => ?_) (fun c_260 => ?_)
          · have hb := hT_260 c_260
            try simp only [if_pos c_260] at hQ
            refine ev_aload_n (pc := 264) dX12_tellRule_264 rfl ?_
            refine tv_getr (pc := 265) (d := 76) dX12_tellRule_265 fl_X12_40 (by decide) rfl rfl ?_
            refine ev_aload_n (pc := 268) dX12_tellRule_268 rfl ?_
            refine tv_geti (pc := 269) dX12_tellRule_269 fl_X12_248 (by decide) rfl rfl ?_
            refine ev_dup2 (pc := 272) dX12_tellRule_272 rfl rfl ?_
            refine ev_iald (pc := 273) dX12_tellRule_273 (by decide) rfl hb.1 ?_
            replace hb := hb.2
            refine ev_iconst (pc := 274) (v := 1) dX12_tellRule_274 (by decide) ?_
            refine ev_iadd (pc := 275) dX12_tellRule_275 ?_
            refine tw_iast (pc := 276) (A2 := (qA276_11_X12_tellRule_68 n I A J t)) dX12_tellRule_276 (by decide) rfl hb.1 rfl ?_
            replace hb := hb.2
            refine ev_aload_n (pc := 277) dX12_tellRule_277 rfl ?_
            refine tv_getr (pc := 278) (d := 80) dX12_tellRule_278 fl_X12_53 (by decide) rfl rfl ?_
            refine ev_bipush (pc := 281) (v := 21) dX12_tellRule_281 (by decide) ?_
            refine ev_aload_n (pc := 283) dX12_tellRule_283 rfl ?_
            refine tv_geti (pc := 284) dX12_tellRule_284 fl_X12_248 (by decide) rfl rfl ?_
            refine ev_imul (pc := 287) dX12_tellRule_287 ?_
            refine ev_aload_n (pc := 288) dX12_tellRule_288 rfl ?_
            refine tv_getr (pc := 289) (d := 76) dX12_tellRule_289 fl_X12_40 (by decide) rfl rfl ?_
            refine ev_aload_n (pc := 292) dX12_tellRule_292 rfl ?_
            refine tv_geti (pc := 293) dX12_tellRule_293 fl_X12_248 (by decide) rfl rfl ?_
            refine ev_iald (pc := 296) dX12_tellRule_296 (by decide) rfl hb.1 ?_
            replace hb := hb.2
            refine ev_iadd (pc := 297) dX12_tellRule_297 ?_
            refine ev_aload_n (pc := 298) dX12_tellRule_298 rfl ?_
            refine tv_getr (pc := 299) (d := 81) dX12_tellRule_299 fl_X12_56 (by decide) rfl rfl ?_
            refine ev_aload_n (pc := 302) dX12_tellRule_302 rfl ?_
            refine tv_geti (pc := 303) dX12_tellRule_303 fl_X12_248 (by decide) rfl rfl ?_
            refine ev_iald (pc := 306) dX12_tellRule_306 (by decide) rfl hb.1 ?_
            replace hb := hb.2
            refine tw_iast (pc := 307) (A2 := (qA307_12_X12_tellRule_68 n I A J t)) dX12_tellRule_307 (by decide) rfl hb rfl ?_
            exact ev_vret (pc := 308) dX12_tellRule_308 rfl (by decide) (by decide) (hQ _ _ ⟨rfl, rfl⟩)
          · try simp only [if_neg c_260] at hQ
            exact ev_vret (pc := 263) dX12_tellRule_263 rfl (by decide) (by decide) (hQ _ _ ⟨rfl, rfl⟩)
        · have hb := hF_156 c_156
          try simp only [if_neg c_156] at hQ
          refine ev_aload_n (pc := 159) dX12_tellRule_159 rfl ?_
          refine ev_Vv (pc := 160) dX12_tellRule_160 lk_X12_236 cd_X12_next ar_X12_next ⟨by decide, rfl, rfl⟩ (cv_X12_next_68 g n (pI_X12_must_68 n (pI_X12_next_68 n (pI_X12_must_68 n (pI_X12_next_68 n (qIm6_X12_tellRule_68 n I A J t) (qA82_X12_tellRule_68 n I A J t) J t ) (qA82_X12_tellRule_68 n I A J t) J t 22) (qA106_X12_tellRule_68 n I A J t) J t ) (qA106_X12_tellRule_68 n I A J t) J t 2) (qA149_X12_tellRule_68 n I A J t) J t  hb.1) (show 68 < 120 by decide) rfl rfl rfl rfl (Nat.le_of_ble_eq_true rfl) ⟨by decide, by decide⟩ ?_
          replace hb := hb.2
          refine ev_aload_n (pc := 163) dX12_tellRule_163 rfl ?_
          refine tv_geti (pc := 164) dX12_tellRule_164 fl_X12_218 (by decide) rfl rfl ?_
          refine ev_is (y := (q167_13_X12_tellRule_68 n I A J t)) rfl ?_
          refine ev_istore_2 (pc := 167) dX12_tellRule_167 (by decide) rfl ?_
          refine ev_aload_n (pc := 168) dX12_tellRule_168 rfl ?_
          refine ev_iconst (pc := 169) (v := 2) dX12_tellRule_169 (by decide) ?_
          refine ev_Vv (pc := 170) dX12_tellRule_170 lk_X12_257 cd_X12_must ar_X12_must ⟨by decide, rfl, rfl⟩ (cv_X12_must_68 g n (pI_X12_next_68 n (pI_X12_must_68 n (pI_X12_next_68 n (pI_X12_must_68 n (pI_X12_next_68 n (qIm6_X12_tellRule_68 n I A J t) (qA82_X12_tellRule_68 n I A J t) J t ) (qA82_X12_tellRule_68 n I A J t) J t 22) (qA106_X12_tellRule_68 n I A J t) J t ) (qA106_X12_tellRule_68 n I A J t) J t 2) (qA149_X12_tellRule_68 n I A J t) J t ) (qA149_X12_tellRule_68 n I A J t) J t 2 hb.1) (show 68 < 120 by decide) rfl rfl rfl rfl (Nat.le_of_ble_eq_true rfl) ⟨by decide, by decide⟩ ?_
          replace hb := hb.2
          refine ev_aload_n (pc := 173) dX12_tellRule_173 rfl ?_
          refine tv_geti (pc := 174) dX12_tellRule_174 fl_X12_215 (by decide) rfl rfl ?_
          have hT_177 := hb
          refine ev_if_le (pc := 177) (tgt := 181) dX12_tellRule_177 (by decide) (fun c_177 => ?_) (fun c_177 => ?_)
          · have hb := hT_177 c_177
            try simp only [if_pos c_177] at hQ
            refine ev_aload_n (pc := 181) dX12_tellRule_181 rfl ?_
            refine tv_getr (pc := 182) (d := 79) dX12_tellRule_182 fl_X12_50 (by decide) rfl rfl ?_
            refine ev_iload_n (pc := 185) dX12_tellRule_185 rfl ?_
            refine ev_aload_n (pc := 186) dX12_tellRule_186 rfl ?_
            refine tv_getr (pc := 187) (d := 73) dX12_tellRule_187 fl_X12_27 (by decide) rfl rfl ?_
            refine ev_iload_n (pc := 190) dX12_tellRule_190 rfl ?_
            refine ev_iald (pc := 191) dX12_tellRule_191 (by decide) rfl hb.1 ?_
            replace hb := hb.2
            refine tw_iast (pc := 192) (A2 := (qA192_14_X12_tellRule_68 n I A J t)) dX12_tellRule_192 (by decide) rfl hb.1 rfl ?_
            replace hb := hb.2
            refine ev_aload_n (pc := 193) dX12_tellRule_193 rfl ?_
            refine tv_getr (pc := 194) (d := 79) dX12_tellRule_194 fl_X12_50 (by decide) rfl rfl ?_
            refine ev_iload_n (pc := 197) dX12_tellRule_197 rfl ?_
            refine ev_iald (pc := 198) dX12_tellRule_198 (by decide) rfl hb.1 ?_
            replace hb := hb.2
            refine ev_aload_n (pc := 199) dX12_tellRule_199 rfl ?_
            refine tv_getr (pc := 200) (d := 78) dX12_tellRule_200 fl_X12_47 (by decide) rfl rfl ?_
            refine ev_iload_n (pc := 203) dX12_tellRule_203 rfl ?_
            refine ev_iald (pc := 204) dX12_tellRule_204 (by decide) rfl hb.1 ?_
            replace hb := hb.2
            obtain ⟨hF_205, hb⟩ := hb
            refine ev_cut (pj := 214) (Lj := [some (.ref (cw_z g + 68)), some (.int (q70_X12_tellRule_68 n I A J t)), some (.int (q167_13_X12_tellRule_68 n I A J t))]) (stj := []) (σj := hp g (qIm205_15_X12_tellRule_68 n I A J t) (qA192_14_X12_tellRule_68 n I A J t) J t) ?_ (fun hJ_205 => ?_)
            rotate_left
            · refine ev_icmp_gt (pc := 205) (tgt := 214) dX12_tellRule_205 (by decide) (fun c_205 => ?_) (fun c_205 => ?_)
              · simp only [qIm205_15_X12_tellRule_68, if_pos c_205] at hJ_205
                exact ev_loc hJ_205 cw_le0
              · have hb := hF_205 c_205
                refine ev_aload_n (pc := 208) dX12_tellRule_208 rfl ?_
                refine ev_iconst (pc := 209) (v := 5) dX12_tellRule_209 (by decide) ?_
                refine ev_iload_n (pc := 210) dX12_tellRule_210 rfl ?_
                refine ev_Vv (pc := 211) dX12_tellRule_211 lk_X12_260 cd_X12_wrong ar_X12_wrong ⟨by decide, rfl, rfl⟩ (cv_X12_wrong_68 g n (pI_X12_must_68 n (pI_X12_next_68 n (pI_X12_must_68 n (pI_X12_next_68 n (pI_X12_must_68 n (pI_X12_next_68 n (qIm6_X12_tellRule_68 n I A J t) (qA82_X12_tellRule_68 n I A J t) J t ) (qA82_X12_tellRule_68 n I A J t) J t 22) (qA106_X12_tellRule_68 n I A J t) J t ) (qA106_X12_tellRule_68 n I A J t) J t 2) (qA149_X12_tellRule_68 n I A J t) J t ) (qA149_X12_tellRule_68 n I A J t) J t 2) (qA192_14_X12_tellRule_68 n I A J t) J t 5 (q167_13_X12_tellRule_68 n I A J t) hb) (show 68 < 120 by decide) rfl rfl rfl rfl (Nat.le_of_ble_eq_true rfl) ⟨by decide, by decide⟩ ?_
                simp only [qIm205_15_X12_tellRule_68, if_neg c_205] at hJ_205
                exact ev_loc hJ_205 cw_le0
            refine ev_aload_n (pc := 214) dX12_tellRule_214 rfl ?_
            refine ev_bipush (pc := 215) (v := 25) dX12_tellRule_215 (by decide) ?_
            refine ev_Vi (pc := 217) dX12_tellRule_217 lk_X12_233 cd_X12_is ar_X12_is ⟨by decide, rfl, rfl⟩ (cv_X12_is_68 g n (qIm205_15_X12_tellRule_68 n I A J t) (qA192_14_X12_tellRule_68 n I A J t) J t 25 hb.1) (show 68 < 120 by decide) rfl rfl rfl rfl (Nat.le_of_ble_eq_true rfl) ⟨by decide, by decide⟩ ?_
            replace hb := hb.2
            obtain ⟨hF_220, hb⟩ := hb
            refine ev_cut (pj := 251) (Lj := [some (.ref (cw_z g + 68)), some (.int (q70_X12_tellRule_68 n I A J t)), some (.int (q167_13_X12_tellRule_68 n I A J t))]) (stj := []) (σj := hp g (qIm220_18_X12_tellRule_68 n I A J t) (qAm220_19_X12_tellRule_68 n I A J t) J t) ?_ (fun hJ_220 => ?_)
            rotate_left
            · refine ev_if_eq (pc := 220) (tgt := 251) dX12_tellRule_220 (by decide) (fun c_220 => ?_) (fun c_220 => ?_)
              · simp only [qIm220_18_X12_tellRule_68, qAm220_19_X12_tellRule_68, if_pos c_220] at hJ_220
                exact ev_loc hJ_220 cw_le0
              · have hb := hF_220 c_220
                refine ev_aload_n (pc := 223) dX12_tellRule_223 rfl ?_
                refine ev_Vv (pc := 224) dX12_tellRule_224 lk_X12_236 cd_X12_next ar_X12_next ⟨by decide, rfl, rfl⟩ (cv_X12_next_68 g n (qIm205_15_X12_tellRule_68 n I A J t) (qA192_14_X12_tellRule_68 n I A J t) J t  hb.1) (show 68 < 120 by decide) rfl rfl rfl rfl (Nat.le_of_ble_eq_true rfl) ⟨by decide, by decide⟩ ?_
                replace hb := hb.2
                refine ev_aload_n (pc := 227) dX12_tellRule_227 rfl ?_
                refine ev_Vv (pc := 228) dX12_tellRule_228 lk_X12_264 cd_X12_relation ar_X12_relation ⟨by decide, rfl, rfl⟩ (cv_X12_relation_68 g n (pI_X12_next_68 n (qIm205_15_X12_tellRule_68 n I A J t) (qA192_14_X12_tellRule_68 n I A J t) J t ) (qA192_14_X12_tellRule_68 n I A J t) J t  hb.1) (show 68 < 120 by decide) rfl rfl rfl rfl (Nat.le_of_ble_eq_true rfl) ⟨by decide, by decide⟩ ?_
                replace hb := hb.2
                refine lt_X12_tellRule_68_231_4 g n I A J t n (pI_X12_relation_68 n (pI_X12_next_68 n (qIm205_15_X12_tellRule_68 n I A J t) (qA192_14_X12_tellRule_68 n I A J t) J t ) (qA192_14_X12_tellRule_68 n I A J t) J t ) (pA_X12_relation_68 n (pI_X12_next_68 n (qIm205_15_X12_tellRule_68 n I A J t) (qA192_14_X12_tellRule_68 n I A J t) J t ) (qA192_14_X12_tellRule_68 n I A J t) J t ) (qIw231_16_X12_tellRule_68 n I A J t) (qAw231_17_X12_tellRule_68 n I A J t) hb rfl rfl ?_
                simp only [qIm220_18_X12_tellRule_68, qAm220_19_X12_tellRule_68, if_neg c_220] at hJ_220
                exact ev_loc hJ_220 cw_le0
            refine ev_aload_n (pc := 251) dX12_tellRule_251 rfl ?_
            refine ev_iconst (pc := 252) (v := 4) dX12_tellRule_252 (by decide) ?_
            refine ev_Vv (pc := 253) dX12_tellRule_253 lk_X12_257 cd_X12_must ar_X12_must ⟨by decide, rfl, rfl⟩ (cv_X12_must_68 g n (qIm220_18_X12_tellRule_68 n I A J t) (qAm220_19_X12_tellRule_68 n I A J t) J t 4 hb.1) (show 68 < 120 by decide) rfl rfl rfl rfl (Nat.le_of_ble_eq_true rfl) ⟨by decide, by decide⟩ ?_
            replace hb := hb.2
            refine ev_aload_n (pc := 256) dX12_tellRule_256 rfl ?_
            refine tv_geti (pc := 257) dX12_tellRule_257 fl_X12_215 (by decide) rfl rfl ?_
            have hT_260 := hb
            refine ev_if_le (pc := 260) (tgt := 264) dX12_tellRule_260 (by decide) (fun c_260 => ?_) (fun c_260 => ?_)
            · have hb := hT_260 c_260
              try simp only [if_pos c_260] at hQ
              refine ev_aload_n (pc := 264) dX12_tellRule_264 rfl ?_
              refine tv_getr (pc := 265) (d := 76) dX12_tellRule_265 fl_X12_40 (by decide) rfl rfl ?_
              refine ev_aload_n (pc := 268) dX12_tellRule_268 rfl ?_
              refine tv_geti (pc := 269) dX12_tellRule_269 fl_X12_248 (by decide) rfl rfl ?_
              refine ev_dup2 (pc := 272) dX12_tellRule_272 rfl rfl ?_
              refine ev_iald (pc := 273) dX12_tellRule_273 (by decide) rfl hb.1 ?_
              replace hb := hb.2
              refine ev_iconst (pc := 274) (v := 1) dX12_tellRule_274 (by decide) ?_
              refine ev_iadd (pc := 275) dX12_tellRule_275 ?_
              refine tw_iast (pc := 276) (A2 := (qA276_20_X12_tellRule_68 n I A J t)) dX12_tellRule_276 (by decide) rfl hb.1 rfl ?_
              replace hb := hb.2
              refine ev_aload_n (pc := 277) dX12_tellRule_277 rfl ?_
              refine tv_getr (pc := 278) (d := 80) dX12_tellRule_278 fl_X12_53 (by decide) rfl rfl ?_
              refine ev_bipush (pc := 281) (v := 21) dX12_tellRule_281 (by decide) ?_
              refine ev_aload_n (pc := 283) dX12_tellRule_283 rfl ?_
              refine tv_geti (pc := 284) dX12_tellRule_284 fl_X12_248 (by decide) rfl rfl ?_
              refine ev_imul (pc := 287) dX12_tellRule_287 ?_
              refine ev_aload_n (pc := 288) dX12_tellRule_288 rfl ?_
              refine tv_getr (pc := 289) (d := 76) dX12_tellRule_289 fl_X12_40 (by decide) rfl rfl ?_
              refine ev_aload_n (pc := 292) dX12_tellRule_292 rfl ?_
              refine tv_geti (pc := 293) dX12_tellRule_293 fl_X12_248 (by decide) rfl rfl ?_
              refine ev_iald (pc := 296) dX12_tellRule_296 (by decide) rfl hb.1 ?_
              replace hb := hb.2
              refine ev_iadd (pc := 297) dX12_tellRule_297 ?_
              refine ev_aload_n (pc := 298) dX12_tellRule_298 rfl ?_
              refine tv_getr (pc := 299) (d := 81) dX12_tellRule_299 fl_X12_56 (by decide) rfl rfl ?_
              refine ev_aload_n (pc := 302) dX12_tellRule_302 rfl ?_
              refine tv_geti (pc := 303) dX12_tellRule_303 fl_X12_248 (by decide) rfl rfl ?_
              refine ev_iald (pc := 306) dX12_tellRule_306 (by decide) rfl hb.1 ?_
              replace hb := hb.2
              refine tw_iast (pc := 307) (A2 := (qA307_21_X12_tellRule_68 n I A J t)) dX12_tellRule_307 (by decide) rfl hb rfl ?_
              exact ev_vret (pc := 308) dX12_tellRule_308 rfl (by decide) (by decide) (hQ _ _ ⟨rfl, rfl⟩)
            · try simp only [if_neg c_260] at hQ
              exact ev_vret (pc := 263) dX12_tellRule_263 rfl (by decide) (by decide) (hQ _ _ ⟨rfl, rfl⟩)
          · try simp only [if_neg c_177] at hQ
            exact ev_vret (pc := 180) dX12_tellRule_180 rfl (by decide) (by decide) (hQ _ _ ⟨rfl, rfl⟩)
      · try simp only [if_neg c_134] at hQ
        exact ev_vret (pc := 137) dX12_tellRule_137 rfl (by decide) (by decide) (hQ _ _ ⟨rfl, rfl⟩)
  · try simp only [if_neg c_49] at hQ
    exact ev_vret (pc := 52) dX12_tellRule_52 rfl (by decide) (by decide) (hQ _ _ ⟨rfl, rfl⟩)

def qI5_X12_read_68 (n : Nat) (I : Nat → Nat → Int32) (A : Nat → Nat → Int32) (J : Nat → Nat → Int64) (t : Bool × Bool) : Nat → Nat → Int32 := cw_u I 68 4 (I 68 2)
def qA29_X12_read_68 (n : Nat) (I : Nat → Nat → Int32) (A : Nat → Nat → Int32) (J : Nat → Nat → Int64) (t : Bool × Bool) (A10 : Nat → Nat → Int32) (v10_1 : Int32) : Nat → Nat → Int32 := cw_u A10 70 (v10_1).toNatClampNeg ((A10 69 (v10_1).toNatClampNeg)).toInt8.toInt32
def q30_X12_read_68 (n : Nat) (I : Nat → Nat → Int32) (A : Nat → Nat → Int32) (J : Nat → Nat → Int64) (t : Bool × Bool) (A10 : Nat → Nat → Int32) (v10_1 : Int32) : Int32 := v10_1 + 1
def lp_X12_read_68_10 (n : Nat) (I : Nat → Nat → Int32) (A : Nat → Nat → Int32) (J : Nat → Nat → Int64) (t : Bool × Bool) : Nat → (Nat → Nat → Int32) → (Int32) → (Nat → Nat → Int32) × Int32
  | 0, A10, v10_1 => (A10, v10_1)
  | f + 1, A10, v10_1 => if ((qI5_X12_read_68 n I A J t) 68 4) ≤ v10_1 then (A10, v10_1) else lp_X12_read_68_10 n I A J t f (qA29_X12_read_68 n I A J t A10 v10_1) (q30_X12_read_68 n I A J t A10 v10_1)
def lb_X12_read_68_10 (n : Nat) (I : Nat → Nat → Int32) (A : Nat → Nat → Int32) (J : Nat → Nat → Int64) (t : Bool × Bool) : Nat → (Nat → Nat → Int32) → (Int32) → Prop
  | 0, _, _ => False
  | f + 1, A10, v10_1 => (¬ ((qI5_X12_read_68 n I A J t) 68 4) ≤ v10_1 → vp_in v10_1 2000 ∧ vp_in v10_1 2000 ∧ lb_X12_read_68_10 n I A J t f (qA29_X12_read_68 n I A J t A10 v10_1) (q30_X12_read_68 n I A J t A10 v10_1))
def qAw10_X12_read_68 (n : Nat) (I : Nat → Nat → Int32) (A : Nat → Nat → Int32) (J : Nat → Nat → Int64) (t : Bool × Bool) : Nat → Nat → Int32 := (lp_X12_read_68_10 n I A J t n A 0).1
def q1w10_X12_read_68 (n : Nat) (I : Nat → Nat → Int32) (A : Nat → Nat → Int32) (J : Nat → Nat → Int64) (t : Bool × Bool) : Int32 := (lp_X12_read_68_10 n I A J t n A 0).2
def qI38_X12_read_68 (n : Nat) (I : Nat → Nat → Int32) (A : Nat → Nat → Int32) (J : Nat → Nat → Int64) (t : Bool × Bool) : Nat → Nat → Int32 := cw_u (qI5_X12_read_68 n I A J t) 68 2 0
def qI47_X12_read_68 (n : Nat) (I : Nat → Nat → Int32) (A : Nat → Nat → Int32) (J : Nat → Nat → Int64) (t : Bool × Bool) : Nat → Nat → Int32 := cw_u (pI_X12_cut_68 n (qI38_X12_read_68 n I A J t) (qAw10_X12_read_68 n I A J t) J t ) 68 11 0
def qI52_X12_read_68 (n : Nat) (I : Nat → Nat → Int32) (A : Nat → Nat → Int32) (J : Nat → Nat → Int64) (t : Bool × Bool) : Nat → Nat → Int32 := cw_u (qI47_X12_read_68 n I A J t) 68 12 0
def qI57_X12_read_68 (n : Nat) (I : Nat → Nat → Int32) (A : Nat → Nat → Int32) (J : Nat → Nat → Int64) (t : Bool × Bool) : Nat → Nat → Int32 := cw_u (qI52_X12_read_68 n I A J t) 68 13 0
def qI62_X12_read_68 (n : Nat) (I : Nat → Nat → Int32) (A : Nat → Nat → Int32) (J : Nat → Nat → Int64) (t : Bool × Bool) : Nat → Nat → Int32 := cw_u (qI57_X12_read_68 n I A J t) 68 15 0
def qI72_X12_read_68 (n : Nat) (I : Nat → Nat → Int32) (A : Nat → Nat → Int32) (J : Nat → Nat → Int64) (t : Bool × Bool) : Nat → Nat → Int32 := cw_u (qI62_X12_read_68 n I A J t) 68 19 ((1 : Int32) - ((qI62_X12_read_68 n I A J t) 68 18))
def qA84_X12_read_68 (n : Nat) (I : Nat → Nat → Int32) (A : Nat → Nat → Int32) (J : Nat → Nat → Int64) (t : Bool × Bool) : Nat → Nat → Int32 := cw_u (pA_X12_cut_68 n (qI38_X12_read_68 n I A J t) (qAw10_X12_read_68 n I A J t) J t ) 76 (((qI72_X12_read_68 n I A J t) 68 19)).toNatClampNeg 0
def qA94_X12_read_68 (n : Nat) (I : Nat → Nat → Int32) (A : Nat → Nat → Int32) (J : Nat → Nat → Int64) (t : Bool × Bool) : Nat → Nat → Int32 := cw_u (qA84_X12_read_68 n I A J t) 81 (((qI72_X12_read_68 n I A J t) 68 19)).toNatClampNeg 0
def qI104_X12_read_68 (n : Nat) (I : Nat → Nat → Int32) (A : Nat → Nat → Int32) (J : Nat → Nat → Int64) (t : Bool × Bool) : Nat → Nat → Int32 := cw_u (qI72_X12_read_68 n I A J t) 68 30 ((500 : Int32) * ((qI72_X12_read_68 n I A J t) 68 19))
def qA119_X12_read_68 (n : Nat) (I : Nat → Nat → Int32) (A : Nat → Nat → Int32) (J : Nat → Nat → Int64) (t : Bool × Bool) : Nat → Nat → Int32 := cw_u (qA94_X12_read_68 n I A J t) 80 (((21 : Int32) * ((qI104_X12_read_68 n I A J t) 68 19))).toNatClampNeg 0
def lp_X12_read_68_120 (n : Nat) (I : Nat → Nat → Int32) (A : Nat → Nat → Int32) (J : Nat → Nat → Int64) (t : Bool × Bool) : Nat → (Nat → Nat → Int32) → (Nat → Nat → Int32) → (Nat → Nat → Int32) × (Nat → Nat → Int32)
  | 0, I120, A120 => (I120, A120)
  | f + 1, I120, A120 => if (I120 68 13) = 0 then if (px_X12_is_68 n I120 A120 (pJ_X12_cut_68 n (qI38_X12_read_68 n I A J t) (qAw10_X12_read_68 n I A J t) J t ) t 0) = 0 then lp_X12_read_68_120 n I A J t f (pI_X12_tellRule_68 n I120 A120 (pJ_X12_cut_68 n (qI38_X12_read_68 n I A J t) (qAw10_X12_read_68 n I A J t) J t ) t ) (pA_X12_tellRule_68 n I120 A120 (pJ_X12_cut_68 n (qI38_X12_read_68 n I A J t) (qAw10_X12_read_68 n I A J t) J t ) t ) else (I120, A120) else (I120, A120)
def lb_X12_read_68_120 (n : Nat) (I : Nat → Nat → Int32) (A : Nat → Nat → Int32) (J : Nat → Nat → Int64) (t : Bool × Bool) : Nat → (Nat → Nat → Int32) → (Nat → Nat → Int32) → Prop
  | 0, _, _ => False
  | f + 1, I120, A120 => ((I120 68 13) = 0 → pb_X12_is_68 n I120 A120 (pJ_X12_cut_68 n (qI38_X12_read_68 n I A J t) (qAw10_X12_read_68 n I A J t) J t ) t 0 ∧ ((px_X12_is_68 n I120 A120 (pJ_X12_cut_68 n (qI38_X12_read_68 n I A J t) (qAw10_X12_read_68 n I A J t) J t ) t 0) = 0 → pb_X12_tellRule_68 n I120 A120 (pJ_X12_cut_68 n (qI38_X12_read_68 n I A J t) (qAw10_X12_read_68 n I A J t) J t ) t  ∧ lb_X12_read_68_120 n I A J t f (pI_X12_tellRule_68 n I120 A120 (pJ_X12_cut_68 n (qI38_X12_read_68 n I A J t) (qAw10_X12_read_68 n I A J t) J t ) t ) (pA_X12_tellRule_68 n I120 A120 (pJ_X12_cut_68 n (qI38_X12_read_68 n I A J t) (qAw10_X12_read_68 n I A J t) J t ) t )))
def qIw120_X12_read_68 (n : Nat) (I : Nat → Nat → Int32) (A : Nat → Nat → Int32) (J : Nat → Nat → Int64) (t : Bool × Bool) : Nat → Nat → Int32 := (lp_X12_read_68_120 n I A J t n (qI104_X12_read_68 n I A J t) (qA119_X12_read_68 n I A J t)).1
def qAw120_X12_read_68 (n : Nat) (I : Nat → Nat → Int32) (A : Nat → Nat → Int32) (J : Nat → Nat → Int64) (t : Bool × Bool) : Nat → Nat → Int32 := (lp_X12_read_68_120 n I A J t n (qI104_X12_read_68 n I A J t) (qA119_X12_read_68 n I A J t)).2
def qs1m161_X12_read_68 (n : Nat) (I : Nat → Nat → Int32) (A : Nat → Nat → Int32) (J : Nat → Nat → Int64) (t : Bool × Bool) : Int32 := if ((qIw120_X12_read_68 n I A J t) 68 15) ≤ 0 then (-1) else ((qIw120_X12_read_68 n I A J t) 68 16)
def qs1m147_X12_read_68 (n : Nat) (I : Nat → Nat → Int32) (A : Nat → Nat → Int32) (J : Nat → Nat → Int64) (t : Bool × Bool) : Int32 := if ((qIw120_X12_read_68 n I A J t) 68 13) ≤ 0 then (qs1m161_X12_read_68 n I A J t) else ((qIw120_X12_read_68 n I A J t) 68 14)
def qI172_X12_read_68 (n : Nat) (I : Nat → Nat → Int32) (A : Nat → Nat → Int32) (J : Nat → Nat → Int64) (t : Bool × Bool) : Nat → Nat → Int32 := cw_u (qIw120_X12_read_68 n I A J t) 68 17 (qs1m147_X12_read_68 n I A J t)
def qI204_X12_read_68 (n : Nat) (I : Nat → Nat → Int32) (A : Nat → Nat → Int32) (J : Nat → Nat → Int64) (t : Bool × Bool) : Nat → Nat → Int32 := cw_u (qI172_X12_read_68 n I A J t) 68 18 ((qI172_X12_read_68 n I A J t) 68 19)
def pb_X12_read_68 (n : Nat) (I : Nat → Nat → Int32) (A : Nat → Nat → Int32) (J : Nat → Nat → Int64) (t : Bool × Bool) : Prop := lb_X12_read_68_10 n I A J t n A 0 ∧ pb_X12_cut_68 n (qI38_X12_read_68 n I A J t) (qAw10_X12_read_68 n I A J t) J t  ∧ vp_in ((qI72_X12_read_68 n I A J t) 68 19) 2 ∧ vp_in ((qI72_X12_read_68 n I A J t) 68 19) 2 ∧ vp_in ((21 : Int32) * ((qI104_X12_read_68 n I A J t) 68 19)) 42 ∧ lb_X12_read_68_120 n I A J t n (qI104_X12_read_68 n I A J t) (qA119_X12_read_68 n I A J t)
def px_X12_read_68 (n : Nat) (I : Nat → Nat → Int32) (A : Nat → Nat → Int32) (J : Nat → Nat → Int64) (t : Bool × Bool) : Int32 := (if ((qI172_X12_read_68 n I A J t) 68 13) ≤ 0 then (if ((qI172_X12_read_68 n I A J t) 68 15) ≤ 0 then 0 else ((qI172_X12_read_68 n I A J t) 68 15)) else ((qI172_X12_read_68 n I A J t) 68 13))
def pI_X12_read_68 (n : Nat) (I : Nat → Nat → Int32) (A : Nat → Nat → Int32) (J : Nat → Nat → Int64) (t : Bool × Bool) : Nat → Nat → Int32 := (if ((qI172_X12_read_68 n I A J t) 68 13) ≤ 0 then (if ((qI172_X12_read_68 n I A J t) 68 15) ≤ 0 then (qI204_X12_read_68 n I A J t) else (qI172_X12_read_68 n I A J t)) else (qI172_X12_read_68 n I A J t))
def pA_X12_read_68 (n : Nat) (I : Nat → Nat → Int32) (A : Nat → Nat → Int32) (J : Nat → Nat → Int64) (t : Bool × Bool) : Nat → Nat → Int32 := (qAw120_X12_read_68 n I A J t)
def pJ_X12_read_68 (n : Nat) (I : Nat → Nat → Int32) (A : Nat → Nat → Int32) (J : Nat → Nat → Int64) (t : Bool × Bool) : Nat → Nat → Int64 := (pJ_X12_cut_68 n (qI38_X12_read_68 n I A J t) (qAw10_X12_read_68 n I A J t) J t )
set_option maxRecDepth 100000 in
set_option maxHeartbeats 4000000 in
theorem lt_X12_read_68_10 (g : cw_G) (n : Nat) (I : Nat → Nat → Int32) (A : Nat → Nat → Int32) (J : Nat → Nat → Int64) (t : Bool × Bool) {Q : Option Value → cw_H → Prop} : ∀ (f : Nat) (A10 : Nat → Nat → Int32) (v10_1 : Int32) (w0 : Nat → Nat → Int32) (w1 : Int32), lb_X12_read_68_10 n I A J t f A10 v10_1 → (lp_X12_read_68_10 n I A J t f A10 v10_1).1 = w0 → (lp_X12_read_68_10 n I A J t f A10 v10_1).2 = w1 → Ev g mX12_read 0 0 36 [some (.ref (cw_z g + 68)), some (.int w1)] [] (hp g (qI5_X12_read_68 n I A J t) w0 J t) Q → Ev g mX12_read 0 0 10 [some (.ref (cw_z g + 68)), some (.int v10_1)] [] (hp g (qI5_X12_read_68 n I A J t) A10 J t) Q := by
  intro f
  induction f with
  | zero =>
    intro A10 v10_1 w0 w1 hb
    exact hb.elim
  | succ f ih =>
    intro A10 v10_1 w0 w1 hb h0 h1 hE
    rw [lb_X12_read_68_10] at hb
    rw [lp_X12_read_68_10] at h0 h1
    refine ev_iload_n (pc := 10) dX12_read_10 rfl ?_
    refine ev_aload_n (pc := 11) dX12_read_11 rfl ?_
    refine tv_geti (pc := 12) dX12_read_12 fl_X12_184 (by decide) rfl rfl ?_
    have hF_15 := hb
    refine ev_icmp_ge (pc := 15) (tgt := 36) dX12_read_15 (by decide) (fun c_15 => ?_) (fun c_15 => ?_)
    · try simp only [if_pos c_15] at h0
      try simp only [if_pos c_15] at h1
      subst h0
      subst h1
      exact ev_loc hE cw_le0
    · have hb := hF_15 c_15
      try simp only [if_neg c_15] at h0
      try simp only [if_neg c_15] at h1
      refine ev_aload_n (pc := 18) dX12_read_18 rfl ?_
      refine tv_getr (pc := 19) (d := 70) dX12_read_19 fl_X12_17 (by decide) rfl rfl ?_
      refine ev_iload_n (pc := 22) dX12_read_22 rfl ?_
      refine ev_aload_n (pc := 23) dX12_read_23 rfl ?_
      refine tv_getr (pc := 24) (d := 69) dX12_read_24 fl_X12_13 (by decide) rfl rfl ?_
      refine ev_iload_n (pc := 27) dX12_read_27 rfl ?_
      refine ev_bald (pc := 28) dX12_read_28 (by decide) rfl hb.1 ?_
      replace hb := hb.2
      refine tw_bast (pc := 29) (A2 := (qA29_X12_read_68 n I A J t A10 v10_1)) dX12_read_29 (by decide) rfl hb.1 rfl ?_
      replace hb := hb.2
      refine ev_iinc_1 (pc := 30) (v := (q30_X12_read_68 n I A J t A10 v10_1)) dX12_read_30 (by decide) rfl rfl ?_
      refine ev_goto (pc := 33) (tgt := 10) dX12_read_33 (by decide) ?_
      exact ev_loc (ih (qA29_X12_read_68 n I A J t A10 v10_1) (q30_X12_read_68 n I A J t A10 v10_1) w0 w1 hb h0 h1 hE) cw_le0

set_option maxRecDepth 100000 in
set_option maxHeartbeats 4000000 in
theorem lt_X12_read_68_120 (g : cw_G) (n : Nat) (I : Nat → Nat → Int32) (A : Nat → Nat → Int32) (J : Nat → Nat → Int64) (t : Bool × Bool) {Q : Option Value → cw_H → Prop} : ∀ (f : Nat) (I120 : Nat → Nat → Int32) (A120 : Nat → Nat → Int32) (w0 : Nat → Nat → Int32) (w1 : Nat → Nat → Int32), lb_X12_read_68_120 n I A J t f I120 A120 → (lp_X12_read_68_120 n I A J t f I120 A120).1 = w0 → (lp_X12_read_68_120 n I A J t f I120 A120).2 = w1 → Ev g mX12_read 0 0 142 [some (.ref (cw_z g + 68)), some (.int (q1w10_X12_read_68 n I A J t))] [] (hp g w0 w1 (pJ_X12_cut_68 n (qI38_X12_read_68 n I A J t) (qAw10_X12_read_68 n I A J t) J t ) t) Q → Ev g mX12_read 0 0 120 [some (.ref (cw_z g + 68)), some (.int (q1w10_X12_read_68 n I A J t))] [] (hp g I120 A120 (pJ_X12_cut_68 n (qI38_X12_read_68 n I A J t) (qAw10_X12_read_68 n I A J t) J t ) t) Q := by
  intro f
  induction f with
  | zero =>
    intro I120 A120 w0 w1 hb
    exact hb.elim
  | succ f ih =>
    intro I120 A120 w0 w1 hb h0 h1 hE
    rw [lb_X12_read_68_120] at hb
    rw [lp_X12_read_68_120] at h0 h1
    refine ev_aload_n (pc := 120) dX12_read_120 rfl ?_
    refine tv_geti (pc := 121) dX12_read_121 fl_X12_215 (by decide) rfl rfl ?_
    have hF_124 := hb
    refine ev_if_ne (pc := 124) (tgt := 142) dX12_read_124 (by decide) (fun c_124 => ?_) (fun c_124 => ?_)
    · try simp only [if_neg c_124] at h0
      try simp only [if_neg c_124] at h1
      subst h0
      subst h1
      exact ev_loc hE cw_le0
    · have hb := hF_124 c_124
      try simp only [if_pos c_124] at h0
      try simp only [if_pos c_124] at h1
      refine ev_aload_n (pc := 127) dX12_read_127 rfl ?_
      refine ev_iconst (pc := 128) (v := 0) dX12_read_128 (by decide) ?_
      refine ev_Vi (pc := 129) dX12_read_129 lk_X12_233 cd_X12_is ar_X12_is ⟨by decide, rfl, rfl⟩ (cv_X12_is_68 g n I120 A120 (pJ_X12_cut_68 n (qI38_X12_read_68 n I A J t) (qAw10_X12_read_68 n I A J t) J t ) t 0 hb.1) (show 68 < 120 by decide) rfl rfl rfl rfl (Nat.le_of_ble_eq_true rfl) ⟨by decide, by decide⟩ ?_
      replace hb := hb.2
      have hF_132 := hb
      refine ev_if_ne (pc := 132) (tgt := 142) dX12_read_132 (by decide) (fun c_132 => ?_) (fun c_132 => ?_)
      · try simp only [if_neg c_132] at h0
        try simp only [if_neg c_132] at h1
        subst h0
        subst h1
        exact ev_loc hE cw_le0
      · have hb := hF_132 c_132
        try simp only [if_pos c_132] at h0
        try simp only [if_pos c_132] at h1
        refine ev_aload_n (pc := 135) dX12_read_135 rfl ?_
        refine ev_Vv (pc := 136) dX12_read_136 lk_X12_254 cd_X12_tellRule ar_X12_tellRule ⟨by decide, rfl, rfl⟩ (cv_X12_tellRule_68 g n I120 A120 (pJ_X12_cut_68 n (qI38_X12_read_68 n I A J t) (qAw10_X12_read_68 n I A J t) J t ) t  hb.1) (show 68 < 120 by decide) rfl rfl rfl rfl (Nat.le_of_ble_eq_true rfl) ⟨by decide, by decide⟩ ?_
        replace hb := hb.2
        refine ev_goto (pc := 139) (tgt := 120) dX12_read_139 (by decide) ?_
        exact ev_loc (ih (pI_X12_tellRule_68 n I120 A120 (pJ_X12_cut_68 n (qI38_X12_read_68 n I A J t) (qAw10_X12_read_68 n I A J t) J t ) t ) (pA_X12_tellRule_68 n I120 A120 (pJ_X12_cut_68 n (qI38_X12_read_68 n I A J t) (qAw10_X12_read_68 n I A J t) J t ) t ) w0 w1 hb h0 h1 hE) cw_le0

set_option maxRecDepth 100000 in
set_option maxHeartbeats 4000000 in
theorem cv_X12_read_68 (g : cw_G) (n : Nat) (I : Nat → Nat → Int32) (A : Nat → Nat → Int32) (J : Nat → Nat → Int64) (t : Bool × Bool) (hb : pb_X12_read_68 n I A J t) : Cd g mX12_read [(.ref (cw_z g + 68))] (hp g I A J t) (some (.int (px_X12_read_68 n I A J t))) (hp g (pI_X12_read_68 n I A J t) (pA_X12_read_68 n I A J t) (pJ_X12_read_68 n I A J t) t) := by
  unfold pb_X12_read_68 at hb
  unfold px_X12_read_68 pI_X12_read_68 pA_X12_read_68 pJ_X12_read_68
  refine Cd.of rfl (Nat.le_of_ble_eq_true rfl) (ev_gen (fun Q hQ => ?_))
  refine ev_aload_n (pc := 0) dX12_read_0 rfl ?_
  refine ev_aload_n (pc := 1) dX12_read_1 rfl ?_
  refine tv_geti (pc := 2) dX12_read_2 fl_X12_177 (by decide) rfl rfl ?_
  refine tw_puti (pc := 5) (I2 := (qI5_X12_read_68 n I A J t)) dX12_read_5 fp_X12_184 (by decide) rfl rfl rfl ?_
  refine ev_iconst (pc := 8) (v := 0) dX12_read_8 (by decide) ?_
  refine ev_istore_1 (pc := 9) dX12_read_9 (by decide) rfl ?_
  refine lt_X12_read_68_10 g n I A J t n A 0 (qAw10_X12_read_68 n I A J t) (q1w10_X12_read_68 n I A J t) hb.1 rfl rfl ?_
  replace hb := hb.2
  refine ev_aload_n (pc := 36) dX12_read_36 rfl ?_
  refine ev_iconst (pc := 37) (v := 0) dX12_read_37 (by decide) ?_
  refine tw_puti (pc := 38) (I2 := (qI38_X12_read_68 n I A J t)) dX12_read_38 fp_X12_177 (by decide) rfl rfl rfl ?_
  refine ev_aload_n (pc := 41) dX12_read_41 rfl ?_
  refine ev_Vv (pc := 42) dX12_read_42 lk_X12_239 cd_X12_cut ar_X12_cut ⟨by decide, rfl, rfl⟩ (cv_X12_cut_68 g n (qI38_X12_read_68 n I A J t) (qAw10_X12_read_68 n I A J t) J t  hb.1) (show 68 < 120 by decide) rfl rfl rfl rfl (Nat.le_of_ble_eq_true rfl) ⟨by decide, by decide⟩ ?_
  replace hb := hb.2
  refine ev_aload_n (pc := 45) dX12_read_45 rfl ?_
  refine ev_iconst (pc := 46) (v := 0) dX12_read_46 (by decide) ?_
  refine tw_puti (pc := 47) (I2 := (qI47_X12_read_68 n I A J t)) dX12_read_47 fp_X12_218 (by decide) rfl rfl rfl ?_
  refine ev_aload_n (pc := 50) dX12_read_50 rfl ?_
  refine ev_iconst (pc := 51) (v := 0) dX12_read_51 (by decide) ?_
  refine tw_puti (pc := 52) (I2 := (qI52_X12_read_68 n I A J t)) dX12_read_52 fp_X12_242 (by decide) rfl rfl rfl ?_
  refine ev_aload_n (pc := 55) dX12_read_55 rfl ?_
  refine ev_iconst (pc := 56) (v := 0) dX12_read_56 (by decide) ?_
  refine tw_puti (pc := 57) (I2 := (qI57_X12_read_68 n I A J t)) dX12_read_57 fp_X12_215 (by decide) rfl rfl rfl ?_
  refine ev_aload_n (pc := 60) dX12_read_60 rfl ?_
  refine ev_iconst (pc := 61) (v := 0) dX12_read_61 (by decide) ?_
  refine tw_puti (pc := 62) (I2 := (qI62_X12_read_68 n I A J t)) dX12_read_62 fp_X12_224 (by decide) rfl rfl rfl ?_
  refine ev_aload_n (pc := 65) dX12_read_65 rfl ?_
  refine ev_iconst (pc := 66) (v := 1) dX12_read_66 (by decide) ?_
  refine ev_aload_n (pc := 67) dX12_read_67 rfl ?_
  refine tv_geti (pc := 68) dX12_read_68 fl_X12_245 (by decide) rfl rfl ?_
  refine ev_isub (pc := 71) dX12_read_71 ?_
  refine tw_puti (pc := 72) (I2 := (qI72_X12_read_68 n I A J t)) dX12_read_72 fp_X12_248 (by decide) rfl rfl rfl ?_
  refine ev_aload_n (pc := 75) dX12_read_75 rfl ?_
  refine tv_getr (pc := 76) (d := 76) dX12_read_76 fl_X12_40 (by decide) rfl rfl ?_
  refine ev_aload_n (pc := 79) dX12_read_79 rfl ?_
  refine tv_geti (pc := 80) dX12_read_80 fl_X12_248 (by decide) rfl rfl ?_
  refine ev_iconst (pc := 83) (v := 0) dX12_read_83 (by decide) ?_
  refine tw_iast (pc := 84) (A2 := (qA84_X12_read_68 n I A J t)) dX12_read_84 (by decide) rfl hb.1 rfl ?_
  replace hb := hb.2
  refine ev_aload_n (pc := 85) dX12_read_85 rfl ?_
  refine tv_getr (pc := 86) (d := 81) dX12_read_86 fl_X12_56 (by decide) rfl rfl ?_
  refine ev_aload_n (pc := 89) dX12_read_89 rfl ?_
  refine tv_geti (pc := 90) dX12_read_90 fl_X12_248 (by decide) rfl rfl ?_
  refine ev_iconst (pc := 93) (v := 0) dX12_read_93 (by decide) ?_
  refine tw_iast (pc := 94) (A2 := (qA94_X12_read_68 n I A J t)) dX12_read_94 (by decide) rfl hb.1 rfl ?_
  replace hb := hb.2
  refine ev_aload_n (pc := 95) dX12_read_95 rfl ?_
  refine ev_sipush (pc := 96) (v := 500) dX12_read_96 (by decide) ?_
  refine ev_aload_n (pc := 99) dX12_read_99 rfl ?_
  refine tv_geti (pc := 100) dX12_read_100 fl_X12_248 (by decide) rfl rfl ?_
  refine ev_imul (pc := 103) dX12_read_103 ?_
  refine tw_puti (pc := 104) (I2 := (qI104_X12_read_68 n I A J t)) dX12_read_104 fp_X12_251 (by decide) rfl rfl rfl ?_
  refine ev_aload_n (pc := 107) dX12_read_107 rfl ?_
  refine tv_getr (pc := 108) (d := 80) dX12_read_108 fl_X12_53 (by decide) rfl rfl ?_
  refine ev_bipush (pc := 111) (v := 21) dX12_read_111 (by decide) ?_
  refine ev_aload_n (pc := 113) dX12_read_113 rfl ?_
  refine tv_geti (pc := 114) dX12_read_114 fl_X12_248 (by decide) rfl rfl ?_
  refine ev_imul (pc := 117) dX12_read_117 ?_
  refine ev_iconst (pc := 118) (v := 0) dX12_read_118 (by decide) ?_
  refine tw_iast (pc := 119) (A2 := (qA119_X12_read_68 n I A J t)) dX12_read_119 (by decide) rfl hb.1 rfl ?_
  replace hb := hb.2
  refine lt_X12_read_68_120 g n I A J t n (qI104_X12_read_68 n I A J t) (qA119_X12_read_68 n I A J t) (qIw120_X12_read_68 n I A J t) (qAw120_X12_read_68 n I A J t) hb rfl rfl ?_
  refine ev_aload_n (pc := 142) dX12_read_142 rfl ?_
  refine ev_aload_n (pc := 143) dX12_read_143 rfl ?_
  refine tv_geti (pc := 144) dX12_read_144 fl_X12_215 (by decide) rfl rfl ?_
  refine ev_cut (pj := 172) (Lj := [some (.ref (cw_z g + 68)), some (.int (q1w10_X12_read_68 n I A J t))]) (stj := [(.int (qs1m147_X12_read_68 n I A J t)), (.ref (cw_z g + 68))]) (σj := hp g (qIw120_X12_read_68 n I A J t) (qAw120_X12_read_68 n I A J t) (pJ_X12_cut_68 n (qI38_X12_read_68 n I A J t) (qAw10_X12_read_68 n I A J t) J t ) t) ?_ (fun hJ_147 => ?_)
  rotate_left
  · refine ev_if_le (pc := 147) (tgt := 157) dX12_read_147 (by decide) (fun c_147 => ?_) (fun c_147 => ?_)
    · refine ev_aload_n (pc := 157) dX12_read_157 rfl ?_
      refine tv_geti (pc := 158) dX12_read_158 fl_X12_224 (by decide) rfl rfl ?_
      refine ev_cut (pj := 172) (Lj := [some (.ref (cw_z g + 68)), some (.int (q1w10_X12_read_68 n I A J t))]) (stj := [(.int (qs1m161_X12_read_68 n I A J t)), (.ref (cw_z g + 68))]) (σj := hp g (qIw120_X12_read_68 n I A J t) (qAw120_X12_read_68 n I A J t) (pJ_X12_cut_68 n (qI38_X12_read_68 n I A J t) (qAw10_X12_read_68 n I A J t) J t ) t) ?_ (fun hJ_161 => ?_)
      rotate_left
      · refine ev_if_le (pc := 161) (tgt := 171) dX12_read_161 (by decide) (fun c_161 => ?_) (fun c_161 => ?_)
        · refine ev_iconst (pc := 171) (v := (-1)) dX12_read_171 (by decide) ?_
          simp only [qs1m161_X12_read_68, if_pos c_161] at hJ_161
          exact ev_loc hJ_161 cw_le0
        · refine ev_aload_n (pc := 164) dX12_read_164 rfl ?_
          refine tv_geti (pc := 165) dX12_read_165 fl_X12_227 (by decide) rfl rfl ?_
          refine ev_goto (pc := 168) (tgt := 172) dX12_read_168 (by decide) ?_
          simp only [qs1m161_X12_read_68, if_neg c_161] at hJ_161
          exact ev_loc hJ_161 cw_le0
      simp only [qs1m147_X12_read_68, if_pos c_147] at hJ_147
      exact ev_loc hJ_147 cw_le0
    · refine ev_aload_n (pc := 150) dX12_read_150 rfl ?_
      refine tv_geti (pc := 151) dX12_read_151 fl_X12_221 (by decide) rfl rfl ?_
      refine ev_goto (pc := 154) (tgt := 172) dX12_read_154 (by decide) ?_
      simp only [qs1m147_X12_read_68, if_neg c_147] at hJ_147
      exact ev_loc hJ_147 cw_le0
  refine tw_puti (pc := 172) (I2 := (qI172_X12_read_68 n I A J t)) dX12_read_172 fp_X12_37 (by decide) rfl rfl rfl ?_
  refine ev_aload_n (pc := 175) dX12_read_175 rfl ?_
  refine tv_geti (pc := 176) dX12_read_176 fl_X12_215 (by decide) rfl rfl ?_
  refine ev_if_le (pc := 179) (tgt := 187) dX12_read_179 (by decide) (fun c_179 => ?_) (fun c_179 => ?_)
  · try simp only [if_pos c_179] at hQ
    refine ev_aload_n (pc := 187) dX12_read_187 rfl ?_
    refine tv_geti (pc := 188) dX12_read_188 fl_X12_224 (by decide) rfl rfl ?_
    refine ev_if_le (pc := 191) (tgt := 199) dX12_read_191 (by decide) (fun c_191 => ?_) (fun c_191 => ?_)
    · try simp only [if_pos c_191] at hQ
      refine ev_aload_n (pc := 199) dX12_read_199 rfl ?_
      refine ev_aload_n (pc := 200) dX12_read_200 rfl ?_
      refine tv_geti (pc := 201) dX12_read_201 fl_X12_248 (by decide) rfl rfl ?_
      refine tw_puti (pc := 204) (I2 := (qI204_X12_read_68 n I A J t)) dX12_read_204 fp_X12_245 (by decide) rfl rfl rfl ?_
      refine ev_iconst (pc := 207) (v := 0) dX12_read_207 (by decide) ?_
      exact ev_iret (pc := 208) dX12_read_208 rfl (by decide) (by decide) (hQ _ _ ⟨rfl, rfl⟩)
    · try simp only [if_neg c_191] at hQ
      refine ev_aload_n (pc := 194) dX12_read_194 rfl ?_
      refine tv_geti (pc := 195) dX12_read_195 fl_X12_224 (by decide) rfl rfl ?_
      exact ev_iret (pc := 198) dX12_read_198 rfl (by decide) (by decide) (hQ _ _ ⟨rfl, rfl⟩)
  · try simp only [if_neg c_179] at hQ
    refine ev_aload_n (pc := 182) dX12_read_182 rfl ?_
    refine tv_geti (pc := 183) dX12_read_183 fl_X12_215 (by decide) rfl rfl ?_
    exact ev_iret (pc := 186) dX12_read_186 rfl (by decide) (by decide) (hQ _ _ ⟨rfl, rfl⟩)
