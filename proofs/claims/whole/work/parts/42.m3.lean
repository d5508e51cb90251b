def qI2_X12_cut_68 (n : Nat) (I : Nat → Nat → Int32) (A : Nat → Nat → Int32) (J : Nat → Nat → Int64) (t : Bool × Bool) : Nat → Nat → Int32 := cw_u I 68 10 0
def q22_X12_cut_68 (n : Nat) (I : Nat → Nat → Int32) (A : Nat → Nat → Int32) (J : Nat → Nat → Int64) (t : Bool × Bool) (I7 : Nat → Nat → Int32) (A7 : Nat → Nat → Int32) (J7 : Nat → Nat → Int64) (v7_1 : Int32) : Int32 := (px_X12_at_68 n I7 A7 J7 t v7_1)
def q67_X12_cut_68 (n : Nat) (I : Nat → Nat → Int32) (A : Nat → Nat → Int32) (J : Nat → Nat → Int64) (t : Bool × Bool) (I7 : Nat → Nat → Int32) (A7 : Nat → Nat → Int32) (J7 : Nat → Nat → Int64) (v7_1 : Int32) : Int32 := v7_1 + 1
def q290_X12_cut_68 (n : Nat) (I : Nat → Nat → Int32) (A : Nat → Nat → Int32) (J : Nat → Nat → Int64) (t : Bool × Bool) (I7 : Nat → Nat → Int32) (A7 : Nat → Nat → Int32) (J7 : Nat → Nat → Int64) (v7_1 : Int32) : Int32 := (v7_1 + (px_X12_sign_68 n I7 A7 J7 t v7_1 (q22_X12_cut_68 n I A J t I7 A7 J7 v7_1) (px_X12_at_68 n I7 A7 J7 t (v7_1 + 1))))
def q242_X12_cut_68 (n : Nat) (I : Nat → Nat → Int32) (A : Nat → Nat → Int32) (J : Nat → Nat → Int64) (t : Bool × Bool) (I7 : Nat → Nat → Int32) (A7 : Nat → Nat → Int32) (J7 : Nat → Nat → Int64) (v7_1 : Int32) (v208_3 : Int32) (v208_4 : Int32) : Int32 := ((((10 : Int32) * v208_4) + (px_X12_at_68 n I7 A7 J7 t (v7_1 + v208_3))) - 48)
def ql4m223_X12_cut_68 (n : Nat) (I : Nat → Nat → Int32) (A : Nat → Nat → Int32) (J : Nat → Nat → Int64) (t : Bool × Bool) (I7 : Nat → Nat → Int32) (A7 : Nat → Nat → Int32) (J7 : Nat → Nat → Int64) (v7_1 : Int32) (v208_3 : Int32) (v208_4 : Int32) : Int32 := if 4 ≤ v208_3 then v208_4 else (q242_X12_cut_68 n I A J t I7 A7 J7 v7_1 v208_3 v208_4)
def q244_X12_cut_68 (n : Nat) (I : Nat → Nat → Int32) (A : Nat → Nat → Int32) (J : Nat → Nat → Int64) (t : Bool × Bool) (I7 : Nat → Nat → Int32) (A7 : Nat → Nat → Int32) (J7 : Nat → Nat → Int64) (v7_1 : Int32) (v208_3 : Int32) (v208_4 : Int32) : Int32 := v208_3 + 1
def lp_X12_cut_68_208 (n : Nat) (I : Nat → Nat → Int32) (A : Nat → Nat → Int32) (J : Nat → Nat → Int64) (t : Bool × Bool) (I7 : Nat → Nat → Int32) (A7 : Nat → Nat → Int32) (J7 : Nat → Nat → Int64) (v7_1 : Int32) : Nat → (Int32) → (Int32) → Int32 × Int32
  | 0, v208_3, v208_4 => (v208_3, v208_4)
  | f + 1, v208_3, v208_4 => if (px_X12_isDigit n I7 A7 J7 t (px_X12_at_68 n I7 A7 J7 t (v7_1 + v208_3))) = 0 then (v208_3, v208_4) else lp_X12_cut_68_208 n I A J t I7 A7 J7 v7_1 f (q244_X12_cut_68 n I A J t I7 A7 J7 v7_1 v208_3 v208_4) (ql4m223_X12_cut_68 n I A J t I7 A7 J7 v7_1 v208_3 v208_4)
def lb_X12_cut_68_208 (n : Nat) (I : Nat → Nat → Int32) (A : Nat → Nat → Int32) (J : Nat → Nat → Int64) (t : Bool × Bool) (I7 : Nat → Nat → Int32) (A7 : Nat → Nat → Int32) (J7 : Nat → Nat → Int64) (v7_1 : Int32) : Nat → (Int32) → (Int32) → Prop
  | 0, _, _ => False
  | f + 1, v208_3, v208_4 => pb_X12_at_68 n I7 A7 J7 t (v7_1 + v208_3) ∧ (¬ (px_X12_isDigit n I7 A7 J7 t (px_X12_at_68 n I7 A7 J7 t (v7_1 + v208_3))) = 0 → (¬ 4 ≤ v208_3 → pb_X12_at_68 n I7 A7 J7 t (v7_1 + v208_3)) ∧ lb_X12_cut_68_208 n I A J t I7 A7 J7 v7_1 f (q244_X12_cut_68 n I A J t I7 A7 J7 v7_1 v208_3 v208_4) (ql4m223_X12_cut_68 n I A J t I7 A7 J7 v7_1 v208_3 v208_4))
def q3w208_X12_cut_68 (n : Nat) (I : Nat → Nat → Int32) (A : Nat → Nat → Int32) (J : Nat → Nat → Int64) (t : Bool × Bool) (I7 : Nat → Nat → Int32) (A7 : Nat → Nat → Int32) (J7 : Nat → Nat → Int64) (v7_1 : Int32) : Int32 := (lp_X12_cut_68_208 n I A J t I7 A7 J7 v7_1 n 0 0).1
def q4w208_X12_cut_68 (n : Nat) (I : Nat → Nat → Int32) (A : Nat → Nat → Int32) (J : Nat → Nat → Int64) (t : Bool × Bool) (I7 : Nat → Nat → Int32) (A7 : Nat → Nat → Int32) (J7 : Nat → Nat → Int64) (v7_1 : Int32) : Int32 := (lp_X12_cut_68_208 n I A J t I7 A7 J7 v7_1 n 0 0).2
def qs1m253_X12_cut_68 (n : Nat) (I : Nat → Nat → Int32) (A : Nat → Nat → Int32) (J : Nat → Nat → Int64) (t : Bool × Bool) (I7 : Nat → Nat → Int32) (A7 : Nat → Nat → Int32) (J7 : Nat → Nat → Int64) (v7_1 : Int32) : Int32 := if (q3w208_X12_cut_68 n I A J t I7 A7 J7 v7_1) ≤ 4 then 2 else 3
def q271_X12_cut_68 (n : Nat) (I : Nat → Nat → Int32) (A : Nat → Nat → Int32) (J : Nat → Nat → Int64) (t : Bool × Bool) (I7 : Nat → Nat → Int32) (A7 : Nat → Nat → Int32) (J7 : Nat → Nat → Int64) (v7_1 : Int32) : Int32 := (v7_1 + (q3w208_X12_cut_68 n I A J t I7 A7 J7 v7_1))
def qIm200_X12_cut_68 (n : Nat) (I : Nat → Nat → Int32) (A : Nat → Nat → Int32) (J : Nat → Nat → Int64) (t : Bool × Bool) (I7 : Nat → Nat → Int32) (A7 : Nat → Nat → Int32) (J7 : Nat → Nat → Int64) (v7_1 : Int32) : Nat → Nat → Int32 := if (px_X12_isDigit n I7 A7 J7 t (q22_X12_cut_68 n I A J t I7 A7 J7 v7_1)) = 0 then (pI_X12_sign_68 n I7 A7 J7 t v7_1 (q22_X12_cut_68 n I A J t I7 A7 J7 v7_1) (px_X12_at_68 n I7 A7 J7 t (v7_1 + 1))) else (pI_X12_token_68 n I7 A7 J7 t (qs1m253_X12_cut_68 n I A J t I7 A7 J7 v7_1) v7_1 (q4w208_X12_cut_68 n I A J t I7 A7 J7 v7_1) 0)
def qAm200_X12_cut_68 (n : Nat) (I : Nat → Nat → Int32) (A : Nat → Nat → Int32) (J : Nat → Nat → Int64) (t : Bool × Bool) (I7 : Nat → Nat → Int32) (A7 : Nat → Nat → Int32) (J7 : Nat → Nat → Int64) (v7_1 : Int32) : Nat → Nat → Int32 := if (px_X12_isDigit n I7 A7 J7 t (q22_X12_cut_68 n I A J t I7 A7 J7 v7_1)) = 0 then (pA_X12_sign_68 n I7 A7 J7 t v7_1 (q22_X12_cut_68 n I A J t I7 A7 J7 v7_1) (px_X12_at_68 n I7 A7 J7 t (v7_1 + 1))) else (pA_X12_token_68 n I7 A7 J7 t (qs1m253_X12_cut_68 n I A J t I7 A7 J7 v7_1) v7_1 (q4w208_X12_cut_68 n I A J t I7 A7 J7 v7_1) 0)
def qJm200_X12_cut_68 (n : Nat) (I : Nat → Nat → Int32) (A : Nat → Nat → Int32) (J : Nat → Nat → Int64) (t : Bool × Bool) (I7 : Nat → Nat → Int32) (A7 : Nat → Nat → Int32) (J7 : Nat → Nat → Int64) (v7_1 : Int32) : Nat → Nat → Int64 := if (px_X12_isDigit n I7 A7 J7 t (q22_X12_cut_68 n I A J t I7 A7 J7 v7_1)) = 0 then (pJ_X12_sign_68 n I7 A7 J7 t v7_1 (q22_X12_cut_68 n I A J t I7 A7 J7 v7_1) (px_X12_at_68 n I7 A7 J7 t (v7_1 + 1))) else (pJ_X12_token_68 n I7 A7 J7 t (qs1m253_X12_cut_68 n I A J t I7 A7 J7 v7_1) v7_1 (q4w208_X12_cut_68 n I A J t I7 A7 J7 v7_1) 0)
def ql1m200_X12_cut_68 (n : Nat) (I : Nat → Nat → Int32) (A : Nat → Nat → Int32) (J : Nat → Nat → Int64) (t : Bool × Bool) (I7 : Nat → Nat → Int32) (A7 : Nat → Nat → Int32) (J7 : Nat → Nat → Int64) (v7_1 : Int32) : Int32 := if (px_X12_isDigit n I7 A7 J7 t (q22_X12_cut_68 n I A J t I7 A7 J7 v7_1)) = 0 then (q290_X12_cut_68 n I A J t I7 A7 J7 v7_1) else (q271_X12_cut_68 n I A J t I7 A7 J7 v7_1)
def q116_X12_cut_68 (n : Nat) (I : Nat → Nat → Int32) (A : Nat → Nat → Int32) (J : Nat → Nat → Int64) (t : Bool × Bool) (I7 : Nat → Nat → Int32) (A7 : Nat → Nat → Int32) (J7 : Nat → Nat → Int64) (v7_1 : Int32) (v85_3 : Int32) (v85_4 : Int64) : Int64 := (px_X12_more n I7 A7 J7 t v85_4 (px_X12_at_68 n I7 A7 J7 t (v7_1 + v85_3)))
def ql4m101_X12_cut_68 (n : Nat) (I : Nat → Nat → Int32) (A : Nat → Nat → Int32) (J : Nat → Nat → Int64) (t : Bool × Bool) (I7 : Nat → Nat → Int32) (A7 : Nat → Nat → Int32) (J7 : Nat → Nat → Int64) (v7_1 : Int32) (v85_3 : Int32) (v85_4 : Int64) : Int64 := if 8 ≤ v85_3 then v85_4 else (q116_X12_cut_68 n I A J t I7 A7 J7 v7_1 v85_3 v85_4)
def q118_X12_cut_68 (n : Nat) (I : Nat → Nat → Int32) (A : Nat → Nat → Int32) (J : Nat → Nat → Int64) (t : Bool × Bool) (I7 : Nat → Nat → Int32) (A7 : Nat → Nat → Int32) (J7 : Nat → Nat → Int64) (v7_1 : Int32) (v85_3 : Int32) (v85_4 : Int64) : Int32 := v85_3 + 1
def lp_X12_cut_68_85 (n : Nat) (I : Nat → Nat → Int32) (A : Nat → Nat → Int32) (J : Nat → Nat → Int64) (t : Bool × Bool) (I7 : Nat → Nat → Int32) (A7 : Nat → Nat → Int32) (J7 : Nat → Nat → Int64) (v7_1 : Int32) : Nat → (Int32) → (Int64) → Int32 × Int64
  | 0, v85_3, v85_4 => (v85_3, v85_4)
  | f + 1, v85_3, v85_4 => if (px_X12_isLetter n I7 A7 J7 t (px_X12_at_68 n I7 A7 J7 t (v7_1 + v85_3))) = 0 then (v85_3, v85_4) else lp_X12_cut_68_85 n I A J t I7 A7 J7 v7_1 f (q118_X12_cut_68 n I A J t I7 A7 J7 v7_1 v85_3 v85_4) (ql4m101_X12_cut_68 n I A J t I7 A7 J7 v7_1 v85_3 v85_4)
def lb_X12_cut_68_85 (n : Nat) (I : Nat → Nat → Int32) (A : Nat → Nat → Int32) (J : Nat → Nat → Int64) (t : Bool × Bool) (I7 : Nat → Nat → Int32) (A7 : Nat → Nat → Int32) (J7 : Nat → Nat → Int64) (v7_1 : Int32) : Nat → (Int32) → (Int64) → Prop
  | 0, _, _ => False
  | f + 1, v85_3, v85_4 => pb_X12_at_68 n I7 A7 J7 t (v7_1 + v85_3) ∧ (¬ (px_X12_isLetter n I7 A7 J7 t (px_X12_at_68 n I7 A7 J7 t (v7_1 + v85_3))) = 0 → (¬ 8 ≤ v85_3 → pb_X12_at_68 n I7 A7 J7 t (v7_1 + v85_3)) ∧ lb_X12_cut_68_85 n I A J t I7 A7 J7 v7_1 f (q118_X12_cut_68 n I A J t I7 A7 J7 v7_1 v85_3 v85_4) (ql4m101_X12_cut_68 n I A J t I7 A7 J7 v7_1 v85_3 v85_4))
def q3w85_X12_cut_68 (n : Nat) (I : Nat → Nat → Int32) (A : Nat → Nat → Int32) (J : Nat → Nat → Int64) (t : Bool × Bool) (I7 : Nat → Nat → Int32) (A7 : Nat → Nat → Int32) (J7 : Nat → Nat → Int64) (v7_1 : Int32) : Int32 := (lp_X12_cut_68_85 n I A J t I7 A7 J7 v7_1 n 0 0).1
def q4w85_X12_cut_68 (n : Nat) (I : Nat → Nat → Int32) (A : Nat → Nat → Int32) (J : Nat → Nat → Int64) (t : Bool × Bool) (I7 : Nat → Nat → Int32) (A7 : Nat → Nat → Int32) (J7 : Nat → Nat → Int64) (v7_1 : Int32) : Int64 := (lp_X12_cut_68_85 n I A J t I7 A7 J7 v7_1 n 0 0).2
def qs0m127_X12_cut_68 (n : Nat) (I : Nat → Nat → Int32) (A : Nat → Nat → Int32) (J : Nat → Nat → Int64) (t : Bool × Bool) (I7 : Nat → Nat → Int32) (A7 : Nat → Nat → Int32) (J7 : Nat → Nat → Int64) (v7_1 : Int32) : Int32 := if (q3w85_X12_cut_68 n I A J t I7 A7 J7 v7_1) ≤ 8 then 1 else 3
def q171_X12_cut_68 (n : Nat) (I : Nat → Nat → Int32) (A : Nat → Nat → Int32) (J : Nat → Nat → Int64) (t : Bool × Bool) (I7 : Nat → Nat → Int32) (A7 : Nat → Nat → Int32) (J7 : Nat → Nat → Int64) (v7_1 : Int32) (v146_6 : Int32) (v146_7 : Int32) : Int32 := ((20 : Int32) + v146_7)
def ql6m163_X12_cut_68 (n : Nat) (I : Nat → Nat → Int32) (A : Nat → Nat → Int32) (J : Nat → Nat → Int64) (t : Bool × Bool) (I7 : Nat → Nat → Int32) (A7 : Nat → Nat → Int32) (J7 : Nat → Nat → Int64) (v7_1 : Int32) (v146_6 : Int32) (v146_7 : Int32) : Int32 := if (lg_cmp (J7 75 (v146_7).toNatClampNeg) (q4w85_X12_cut_68 n I A J t I7 A7 J7 v7_1)) = 0 then (q171_X12_cut_68 n I A J t I7 A7 J7 v7_1 v146_6 v146_7) else v146_6
def q173_X12_cut_68 (n : Nat) (I : Nat → Nat → Int32) (A : Nat → Nat → Int32) (J : Nat → Nat → Int64) (t : Bool × Bool) (I7 : Nat → Nat → Int32) (A7 : Nat → Nat → Int32) (J7 : Nat → Nat → Int64) (v7_1 : Int32) (v146_6 : Int32) (v146_7 : Int32) : Int32 := v146_7 + 1
def lp_X12_cut_68_146 (n : Nat) (I : Nat → Nat → Int32) (A : Nat → Nat → Int32) (J : Nat → Nat → Int64) (t : Bool × Bool) (I7 : Nat → Nat → Int32) (A7 : Nat → Nat → Int32) (J7 : Nat → Nat → Int64) (v7_1 : Int32) : Nat → (Int32) → (Int32) → Int32 × Int32
  | 0, v146_6, v146_7 => (v146_6, v146_7)
  | f + 1, v146_6, v146_7 => if 15 ≤ v146_7 then (v146_6, v146_7) else lp_X12_cut_68_146 n I A J t I7 A7 J7 v7_1 f (ql6m163_X12_cut_68 n I A J t I7 A7 J7 v7_1 v146_6 v146_7) (q173_X12_cut_68 n I A J t I7 A7 J7 v7_1 v146_6 v146_7)
def lb_X12_cut_68_146 (n : Nat) (I : Nat → Nat → Int32) (A : Nat → Nat → Int32) (J : Nat → Nat → Int64) (t : Bool × Bool) (I7 : Nat → Nat → Int32) (A7 : Nat → Nat → Int32) (J7 : Nat → Nat → Int64) (v7_1 : Int32) : Nat → (Int32) → (Int32) → Prop
  | 0, _, _ => False
  | f + 1, v146_6, v146_7 => (¬ 15 ≤ v146_7 → vp_in v146_7 15 ∧ lb_X12_cut_68_146 n I A J t I7 A7 J7 v7_1 f (ql6m163_X12_cut_68 n I A J t I7 A7 J7 v7_1 v146_6 v146_7) (q173_X12_cut_68 n I A J t I7 A7 J7 v7_1 v146_6 v146_7))
def q6w146_X12_cut_68 (n : Nat) (I : Nat → Nat → Int32) (A : Nat → Nat → Int32) (J : Nat → Nat → Int64) (t : Bool × Bool) (I7 : Nat → Nat → Int32) (A7 : Nat → Nat → Int32) (J7 : Nat → Nat → Int64) (v7_1 : Int32) : Int32 := (lp_X12_cut_68_146 n I A J t I7 A7 J7 v7_1 n (qs0m127_X12_cut_68 n I A J t I7 A7 J7 v7_1) 0).1
def q7w146_X12_cut_68 (n : Nat) (I : Nat → Nat → Int32) (A : Nat → Nat → Int32) (J : Nat → Nat → Int64) (t : Bool × Bool) (I7 : Nat → Nat → Int32) (A7 : Nat → Nat → Int32) (J7 : Nat → Nat → Int64) (v7_1 : Int32) : Int32 := (lp_X12_cut_68_146 n I A J t I7 A7 J7 v7_1 n (qs0m127_X12_cut_68 n I A J t I7 A7 J7 v7_1) 0).2
def ql6m140_X12_cut_68 (n : Nat) (I : Nat → Nat → Int32) (A : Nat → Nat → Int32) (J : Nat → Nat → Int64) (t : Bool × Bool) (I7 : Nat → Nat → Int32) (A7 : Nat → Nat → Int32) (J7 : Nat → Nat → Int64) (v7_1 : Int32) : Int32 := if 6 < (q3w85_X12_cut_68 n I A J t I7 A7 J7 v7_1) then (qs0m127_X12_cut_68 n I A J t I7 A7 J7 v7_1) else (q6w146_X12_cut_68 n I A J t I7 A7 J7 v7_1)
def q192_X12_cut_68 (n : Nat) (I : Nat → Nat → Int32) (A : Nat → Nat → Int32) (J : Nat → Nat → Int64) (t : Bool × Bool) (I7 : Nat → Nat → Int32) (A7 : Nat → Nat → Int32) (J7 : Nat → Nat → Int64) (v7_1 : Int32) : Int32 := (v7_1 + (q3w85_X12_cut_68 n I A J t I7 A7 J7 v7_1))
def qIm77_X12_cut_68 (n : Nat) (I : Nat → Nat → Int32) (A : Nat → Nat → Int32) (J : Nat → Nat → Int64) (t : Bool × Bool) (I7 : Nat → Nat → Int32) (A7 : Nat → Nat → Int32) (J7 : Nat → Nat → Int64) (v7_1 : Int32) : Nat → Nat → Int32 := if (px_X12_isLetter n I7 A7 J7 t (q22_X12_cut_68 n I A J t I7 A7 J7 v7_1)) = 0 then (qIm200_X12_cut_68 n I A J t I7 A7 J7 v7_1) else (pI_X12_token_68 n I7 A7 J7 t (ql6m140_X12_cut_68 n I A J t I7 A7 J7 v7_1) v7_1 0 (q4w85_X12_cut_68 n I A J t I7 A7 J7 v7_1))
def qAm77_X12_cut_68 (n : Nat) (I : Nat → Nat → Int32) (A : Nat → Nat → Int32) (J : Nat → Nat → Int64) (t : Bool × Bool) (I7 : Nat → Nat → Int32) (A7 : Nat → Nat → Int32) (J7 : Nat → Nat → Int64) (v7_1 : Int32) : Nat → Nat → Int32 := if (px_X12_isLetter n I7 A7 J7 t (q22_X12_cut_68 n I A J t I7 A7 J7 v7_1)) = 0 then (qAm200_X12_cut_68 n I A J t I7 A7 J7 v7_1) else (pA_X12_token_68 n I7 A7 J7 t (ql6m140_X12_cut_68 n I A J t I7 A7 J7 v7_1) v7_1 0 (q4w85_X12_cut_68 n I A J t I7 A7 J7 v7_1))
def qJm77_X12_cut_68 (n : Nat) (I : Nat → Nat → Int32) (A : Nat → Nat → Int32) (J : Nat → Nat → Int64) (t : Bool × Bool) (I7 : Nat → Nat → Int32) (A7 : Nat → Nat → Int32) (J7 : Nat → Nat → Int64) (v7_1 : Int32) : Nat → Nat → Int64 := if (px_X12_isLetter n I7 A7 J7 t (q22_X12_cut_68 n I A J t I7 A7 J7 v7_1)) = 0 then (qJm200_X12_cut_68 n I A J t I7 A7 J7 v7_1) else (pJ_X12_token_68 n I7 A7 J7 t (ql6m140_X12_cut_68 n I A J t I7 A7 J7 v7_1) v7_1 0 (q4w85_X12_cut_68 n I A J t I7 A7 J7 v7_1))
def ql1m77_X12_cut_68 (n : Nat) (I : Nat → Nat → Int32) (A : Nat → Nat → Int32) (J : Nat → Nat → Int64) (t : Bool × Bool) (I7 : Nat → Nat → Int32) (A7 : Nat → Nat → Int32) (J7 : Nat → Nat → Int64) (v7_1 : Int32) : Int32 := if (px_X12_isLetter n I7 A7 J7 t (q22_X12_cut_68 n I A J t I7 A7 J7 v7_1)) = 0 then (ql1m200_X12_cut_68 n I A J t I7 A7 J7 v7_1) else (q192_X12_cut_68 n I A J t I7 A7 J7 v7_1)
def qIm64_X12_cut_68 (n : Nat) (I : Nat → Nat → Int32) (A : Nat → Nat → Int32) (J : Nat → Nat → Int64) (t : Bool × Bool) (I7 : Nat → Nat → Int32) (A7 : Nat → Nat → Int32) (J7 : Nat → Nat → Int64) (v7_1 : Int32) : Nat → Nat → Int32 := if (q22_X12_cut_68 n I A J t I7 A7 J7 v7_1) = 32 then I7 else (qIm77_X12_cut_68 n I A J t I7 A7 J7 v7_1)
def qAm64_X12_cut_68 (n : Nat) (I : Nat → Nat → Int32) (A : Nat → Nat → Int32) (J : Nat → Nat → Int64) (t : Bool × Bool) (I7 : Nat → Nat → Int32) (A7 : Nat → Nat → Int32) (J7 : Nat → Nat → Int64) (v7_1 : Int32) : Nat → Nat → Int32 := if (q22_X12_cut_68 n I A J t I7 A7 J7 v7_1) = 32 then A7 else (qAm77_X12_cut_68 n I A J t I7 A7 J7 v7_1)
def qJm64_X12_cut_68 (n : Nat) (I : Nat → Nat → Int32) (A : Nat → Nat → Int32) (J : Nat → Nat → Int64) (t : Bool × Bool) (I7 : Nat → Nat → Int32) (A7 : Nat → Nat → Int32) (J7 : Nat → Nat → Int64) (v7_1 : Int32) : Nat → Nat → Int64 := if (q22_X12_cut_68 n I A J t I7 A7 J7 v7_1) = 32 then J7 else (qJm77_X12_cut_68 n I A J t I7 A7 J7 v7_1)
def ql1m64_X12_cut_68 (n : Nat) (I : Nat → Nat → Int32) (A : Nat → Nat → Int32) (J : Nat → Nat → Int64) (t : Bool × Bool) (I7 : Nat → Nat → Int32) (A7 : Nat → Nat → Int32) (J7 : Nat → Nat → Int64) (v7_1 : Int32) : Int32 := if (q22_X12_cut_68 n I A J t I7 A7 J7 v7_1) = 32 then (q67_X12_cut_68 n I A J t I7 A7 J7 v7_1) else (ql1m77_X12_cut_68 n I A J t I7 A7 J7 v7_1)
def qIm58_X12_cut_68 (n : Nat) (I : Nat → Nat → Int32) (A : Nat → Nat → Int32) (J : Nat → Nat → Int64) (t : Bool × Bool) (I7 : Nat → Nat → Int32) (A7 : Nat → Nat → Int32) (J7 : Nat → Nat → Int64) (v7_1 : Int32) : Nat → Nat → Int32 := if (q22_X12_cut_68 n I A J t I7 A7 J7 v7_1) = 13 then I7 else (qIm64_X12_cut_68 n I A J t I7 A7 J7 v7_1)
def qAm58_X12_cut_68 (n : Nat) (I : Nat → Nat → Int32) (A : Nat → Nat → Int32) (J : Nat → Nat → Int64) (t : Bool × Bool) (I7 : Nat → Nat → Int32) (A7 : Nat → Nat → Int32) (J7 : Nat → Nat → Int64) (v7_1 : Int32) : Nat → Nat → Int32 := if (q22_X12_cut_68 n I A J t I7 A7 J7 v7_1) = 13 then A7 else (qAm64_X12_cut_68 n I A J t I7 A7 J7 v7_1)
def qJm58_X12_cut_68 (n : Nat) (I : Nat → Nat → Int32) (A : Nat → Nat → Int32) (J : Nat → Nat → Int64) (t : Bool × Bool) (I7 : Nat → Nat → Int32) (A7 : Nat → Nat → Int32) (J7 : Nat → Nat → Int64) (v7_1 : Int32) : Nat → Nat → Int64 := if (q22_X12_cut_68 n I A J t I7 A7 J7 v7_1) = 13 then J7 else (qJm64_X12_cut_68 n I A J t I7 A7 J7 v7_1)
def ql1m58_X12_cut_68 (n : Nat) (I : Nat → Nat → Int32) (A : Nat → Nat → Int32) (J : Nat → Nat → Int64) (t : Bool × Bool) (I7 : Nat → Nat → Int32) (A7 : Nat → Nat → Int32) (J7 : Nat → Nat → Int64) (v7_1 : Int32) : Int32 := if (q22_X12_cut_68 n I A J t I7 A7 J7 v7_1) = 13 then (q67_X12_cut_68 n I A J t I7 A7 J7 v7_1) else (ql1m64_X12_cut_68 n I A J t I7 A7 J7 v7_1)
def qIm52_X12_cut_68 (n : Nat) (I : Nat → Nat → Int32) (A : Nat → Nat → Int32) (J : Nat → Nat → Int64) (t : Bool × Bool) (I7 : Nat → Nat → Int32) (A7 : Nat → Nat → Int32) (J7 : Nat → Nat → Int64) (v7_1 : Int32) : Nat → Nat → Int32 := if (q22_X12_cut_68 n I A J t I7 A7 J7 v7_1) = 10 then I7 else (qIm58_X12_cut_68 n I A J t I7 A7 J7 v7_1)
def qAm52_X12_cut_68 (n : Nat) (I : Nat → Nat → Int32) (A : Nat → Nat → Int32) (J : Nat → Nat → Int64) (t : Bool × Bool) (I7 : Nat → Nat → Int32) (A7 : Nat → Nat → Int32) (J7 : Nat → Nat → Int64) (v7_1 : Int32) : Nat → Nat → Int32 := if (q22_X12_cut_68 n I A J t I7 A7 J7 v7_1) = 10 then A7 else (qAm58_X12_cut_68 n I A J t I7 A7 J7 v7_1)
def qJm52_X12_cut_68 (n : Nat) (I : Nat → Nat → Int32) (A : Nat → Nat → Int32) (J : Nat → Nat → Int64) (t : Bool × Bool) (I7 : Nat → Nat → Int32) (A7 : Nat → Nat → Int32) (J7 : Nat → Nat → Int64) (v7_1 : Int32) : Nat → Nat → Int64 := if (q22_X12_cut_68 n I A J t I7 A7 J7 v7_1) = 10 then J7 else (qJm58_X12_cut_68 n I A J t I7 A7 J7 v7_1)
def ql1m52_X12_cut_68 (n : Nat) (I : Nat → Nat → Int32) (A : Nat → Nat → Int32) (J : Nat → Nat → Int64) (t : Bool × Bool) (I7 : Nat → Nat → Int32) (A7 : Nat → Nat → Int32) (J7 : Nat → Nat → Int64) (v7_1 : Int32) : Int32 := if (q22_X12_cut_68 n I A J t I7 A7 J7 v7_1) = 10 then (q67_X12_cut_68 n I A J t I7 A7 J7 v7_1) else (ql1m58_X12_cut_68 n I A J t I7 A7 J7 v7_1)
def qIm46_X12_cut_68 (n : Nat) (I : Nat → Nat → Int32) (A : Nat → Nat → Int32) (J : Nat → Nat → Int64) (t : Bool × Bool) (I7 : Nat → Nat → Int32) (A7 : Nat → Nat → Int32) (J7 : Nat → Nat → Int64) (v7_1 : Int32) : Nat → Nat → Int32 := if (q22_X12_cut_68 n I A J t I7 A7 J7 v7_1) = 9 then I7 else (qIm52_X12_cut_68 n I A J t I7 A7 J7 v7_1)
def qAm46_X12_cut_68 (n : Nat) (I : Nat → Nat → Int32) (A : Nat → Nat → Int32) (J : Nat → Nat → Int64) (t : Bool × Bool) (I7 : Nat → Nat → Int32) (A7 : Nat → Nat → Int32) (J7 : Nat → Nat → Int64) (v7_1 : Int32) : Nat → Nat → Int32 := if (q22_X12_cut_68 n I A J t I7 A7 J7 v7_1) = 9 then A7 else (qAm52_X12_cut_68 n I A J t I7 A7 J7 v7_1)
def qJm46_X12_cut_68 (n : Nat) (I : Nat → Nat → Int32) (A : Nat → Nat → Int32) (J : Nat → Nat → Int64) (t : Bool × Bool) (I7 : Nat → Nat → Int32) (A7 : Nat → Nat → Int32) (J7 : Nat → Nat → Int64) (v7_1 : Int32) : Nat → Nat → Int64 := if (q22_X12_cut_68 n I A J t I7 A7 J7 v7_1) = 9 then J7 else (qJm52_X12_cut_68 n I A J t I7 A7 J7 v7_1)
def ql1m46_X12_cut_68 (n : Nat) (I : Nat → Nat → Int32) (A : Nat → Nat → Int32) (J : Nat → Nat → Int64) (t : Bool × Bool) (I7 : Nat → Nat → Int32) (A7 : Nat → Nat → Int32) (J7 : Nat → Nat → Int64) (v7_1 : Int32) : Int32 := if (q22_X12_cut_68 n I A J t I7 A7 J7 v7_1) = 9 then (q67_X12_cut_68 n I A J t I7 A7 J7 v7_1) else (ql1m52_X12_cut_68 n I A J t I7 A7 J7 v7_1)
def lp_X12_cut_68_7 (n : Nat) (I : Nat → Nat → Int32) (A : Nat → Nat → Int32) (J : Nat → Nat → Int64) (t : Bool × Bool) : Nat → (Nat → Nat → Int32) → (Nat → Nat → Int32) → (Nat → Nat → Int64) → (Int32) → (Nat → Nat → Int32) × (Nat → Nat → Int32) × (Nat → Nat → Int64)
  | 0, I7, A7, J7, v7_1 => (I7, A7, J7)
  | f + 1, I7, A7, J7, v7_1 => if 400 < (I7 68 10) then (I7, A7, J7) else if v7_1 < (I7 68 4) then lp_X12_cut_68_7 n I A J t f (qIm46_X12_cut_68 n I A J t I7 A7 J7 v7_1) (qAm46_X12_cut_68 n I A J t I7 A7 J7 v7_1) (qJm46_X12_cut_68 n I A J t I7 A7 J7 v7_1) (ql1m46_X12_cut_68 n I A J t I7 A7 J7 v7_1) else ((pI_X12_token_68 n I7 A7 J7 t 0 (I7 68 4) 0 0), (pA_X12_token_68 n I7 A7 J7 t 0 (I7 68 4) 0 0), (pJ_X12_token_68 n I7 A7 J7 t 0 (I7 68 4) 0 0))
def lb_X12_cut_68_7 (n : Nat) (I : Nat → Nat → Int32) (A : Nat → Nat → Int32) (J : Nat → Nat → Int64) (t : Bool × Bool) : Nat → (Nat → Nat → Int32) → (Nat → Nat → Int32) → (Nat → Nat → Int64) → (Int32) → Prop
  | 0, _, _, _, _ => False
  | f + 1, I7, A7, J7, v7_1 => (¬ 400 < (I7 68 10) → pb_X12_at_68 n I7 A7 J7 t v7_1 ∧ (v7_1 < (I7 68 4) → (¬ (q22_X12_cut_68 n I A J t I7 A7 J7 v7_1) = 9 → (¬ (q22_X12_cut_68 n I A J t I7 A7 J7 v7_1) = 10 → (¬ (q22_X12_cut_68 n I A J t I7 A7 J7 v7_1) = 13 → (¬ (q22_X12_cut_68 n I A J t I7 A7 J7 v7_1) = 32 → ((px_X12_isLetter n I7 A7 J7 t (q22_X12_cut_68 n I A J t I7 A7 J7 v7_1)) = 0 → ((px_X12_isDigit n I7 A7 J7 t (q22_X12_cut_68 n I A J t I7 A7 J7 v7_1)) = 0 → pb_X12_at_68 n I7 A7 J7 t (v7_1 + 1) ∧ pb_X12_sign_68 n I7 A7 J7 t v7_1 (q22_X12_cut_68 n I A J t I7 A7 J7 v7_1) (px_X12_at_68 n I7 A7 J7 t (v7_1 + 1))) ∧ (¬ (px_X12_isDigit n I7 A7 J7 t (q22_X12_cut_68 n I A J t I7 A7 J7 v7_1)) = 0 → lb_X12_cut_68_208 n I A J t I7 A7 J7 v7_1 n 0 0 ∧ pb_X12_token_68 n I7 A7 J7 t (qs1m253_X12_cut_68 n I A J t I7 A7 J7 v7_1) v7_1 (q4w208_X12_cut_68 n I A J t I7 A7 J7 v7_1) 0)) ∧ (¬ (px_X12_isLetter n I7 A7 J7 t (q22_X12_cut_68 n I A J t I7 A7 J7 v7_1)) = 0 → lb_X12_cut_68_85 n I A J t I7 A7 J7 v7_1 n 0 0 ∧ (¬ 6 < (q3w85_X12_cut_68 n I A J t I7 A7 J7 v7_1) → lb_X12_cut_68_146 n I A J t I7 A7 J7 v7_1 n (qs0m127_X12_cut_68 n I A J t I7 A7 J7 v7_1) 0) ∧ pb_X12_token_68 n I7 A7 J7 t (ql6m140_X12_cut_68 n I A J t I7 A7 J7 v7_1) v7_1 0 (q4w85_X12_cut_68 n I A J t I7 A7 J7 v7_1)))))) ∧ lb_X12_cut_68_7 n I A J t f (qIm46_X12_cut_68 n I A J t I7 A7 J7 v7_1) (qAm46_X12_cut_68 n I A J t I7 A7 J7 v7_1) (qJm46_X12_cut_68 n I A J t I7 A7 J7 v7_1) (ql1m46_X12_cut_68 n I A J t I7 A7 J7 v7_1)) ∧ (¬ v7_1 < (I7 68 4) → pb_X12_token_68 n I7 A7 J7 t 0 (I7 68 4) 0 0))
def pb_X12_cut_68 (n : Nat) (I : Nat → Nat → Int32) (A : Nat → Nat → Int32) (J : Nat → Nat → Int64) (t : Bool × Bool) : Prop := lb_X12_cut_68_7 n I A J t n (qI2_X12_cut_68 n I A J t) A J 0
def pI_X12_cut_68 (n : Nat) (I : Nat → Nat → Int32) (A : Nat → Nat → Int32) (J : Nat → Nat → Int64) (t : Bool × Bool) : Nat → Nat → Int32 := (lp_X12_cut_68_7 n I A J t n (qI2_X12_cut_68 n I A J t) A J 0).1
def pA_X12_cut_68 (n : Nat) (I : Nat → Nat → Int32) (A : Nat → Nat → Int32) (J : Nat → Nat → Int64) (t : Bool × Bool) : Nat → Nat → Int32 := (lp_X12_cut_68_7 n I A J t n (qI2_X12_cut_68 n I A J t) A J 0).2.1
def pJ_X12_cut_68 (n : Nat) (I : Nat → Nat → Int32) (A : Nat → Nat → Int32) (J : Nat → Nat → Int64) (t : Bool × Bool) : Nat → Nat → Int64 := (lp_X12_cut_68_7 n I A J t n (qI2_X12_cut_68 n I A J t) A J 0).2.2
set_option maxRecDepth 100000 in
set_option maxHeartbeats 4000000 in
theorem lt_X12_cut_68_208 (g : cw_G) (n : Nat) (I : Nat → Nat → Int32) (A : Nat → Nat → Int32) (J : Nat → Nat → Int64) (t : Bool × Bool) (I7 : Nat → Nat → Int32) (A7 : Nat → Nat → Int32) (J7 : Nat → Nat → Int64) (v7_1 : Int32) {Q : Option Value → cw_H → Prop} : ∀ (f : Nat) (v208_3 : Int32) (v208_4 : Int32) (w0 : Int32) (w1 : Int32), lb_X12_cut_68_208 n I A J t I7 A7 J7 v7_1 f v208_3 v208_4 → (lp_X12_cut_68_208 n I A J t I7 A7 J7 v7_1 f v208_3 v208_4).1 = w0 → (lp_X12_cut_68_208 n I A J t I7 A7 J7 v7_1 f v208_3 v208_4).2 = w1 → Ev g mX12_cut 0 0 250 [some (.ref (cw_z g + 68)), some (.int v7_1), some (.int (q22_X12_cut_68 n I A J t I7 A7 J7 v7_1)), some (.int w0), some (.int w1), none, none, none] [] (hp g I7 A7 J7 t) Q → Ev g mX12_cut 0 0 208 [some (.ref (cw_z g + 68)), some (.int v7_1), some (.int (q22_X12_cut_68 n I A J t I7 A7 J7 v7_1)), some (.int v208_3), some (.int v208_4), none, none, none] [] (hp g I7 A7 J7 t) Q := by
  intro f
  induction f with
  | zero =>
    intro v208_3 v208_4 w0 w1 hb
    exact hb.elim
  | succ f ih =>
    intro v208_3 v208_4 w0 w1 hb h0 h1 hE
    rw [lb_X12_cut_68_208] at hb
    rw [lp_X12_cut_68_208] at h0 h1
    refine ev_aload_n (pc := 208) dX12_cut_208 rfl ?_
    refine ev_iload_n (pc := 209) dX12_cut_209 rfl ?_
    refine ev_iload_n (pc := 210) dX12_cut_210 rfl ?_
    refine ev_iadd (pc := 211) dX12_cut_211 ?_
    refine ev_Vi (pc := 212) dX12_cut_212 lk_X12_196 cd_X12_at ar_X12_at ⟨by decide, rfl, rfl⟩ (cv_X12_at_68 g n I7 A7 J7 t (v7_1 + v208_3) hb.1) (show 68 < 120 by decide) rfl rfl rfl rfl (Nat.le_of_ble_eq_true rfl) ⟨by decide, by decide⟩ ?_
    replace hb := hb.2
    refine ev_Si (pc := 215) dX12_cut_215 lk_X12_208 cd_X12_isDigit ar_X12_isDigit ⟨by decide, rfl, rfl⟩ (cv_X12_isDigit g n I7 A7 J7 t (px_X12_at_68 n I7 A7 J7 t (v7_1 + v208_3))) rfl rfl (Nat.le_of_ble_eq_true rfl) ⟨by decide, by decide⟩ ?_
    have hF_218 := hb
    refine ev_if_eq (pc := 218) (tgt := 250) dX12_cut_218 (by decide) (fun c_218 => ?_) (fun c_218 => ?_)
    · try simp only [if_pos c_218] at h0
      try simp only [if_pos c_218] at h1
      subst h0
      subst h1
      exact ev_loc hE cw_le0
    · have hb := hF_218 c_218
      try simp only [if_neg c_218] at h0
      try simp only [if_neg c_218] at h1
      refine ev_iload_n (pc := 221) dX12_cut_221 rfl ?_
      refine ev_iconst (pc := 222) (v := 4) dX12_cut_222 (by decide) ?_
      obtain ⟨hF_223, hb⟩ := hb
      refine ev_cut (pj := 244) (Lj := [some (.ref (cw_z g + 68)), some (.int v7_1), some (.int (q22_X12_cut_68 n I A J t I7 A7 J7 v7_1)), some (.int v208_3), some (.int (ql4m223_X12_cut_68 n I A J t I7 A7 J7 v7_1 v208_3 v208_4)), none, none, none]) (stj := []) (σj := hp g I7 A7 J7 t) ?_ (fun hJ_223 => ?_)
      rotate_left
      · refine ev_icmp_ge (pc := 223) (tgt := 244) dX12_cut_223 (by decide) (fun c_223 => ?_) (fun c_223 => ?_)
        · simp only [ql4m223_X12_cut_68, if_pos c_223] at hJ_223
          exact ev_loc hJ_223 cw_le0
        · have hb := hF_223 c_223
          refine ev_bipush (pc := 226) (v := 10) dX12_cut_226 (by decide) ?_
          refine ev_iload (pc := 228) dX12_cut_228 rfl ?_
          refine ev_imul (pc := 230) dX12_cut_230 ?_
          refine ev_aload_n (pc := 231) dX12_cut_231 rfl ?_
          refine ev_iload_n (pc := 232) dX12_cut_232 rfl ?_
          refine ev_iload_n (pc := 233) dX12_cut_233 rfl ?_
          refine ev_iadd (pc := 234) dX12_cut_234 ?_
          refine ev_Vi (pc := 235) dX12_cut_235 lk_X12_196 cd_X12_at ar_X12_at ⟨by decide, rfl, rfl⟩ (cv_X12_at_68 g n I7 A7 J7 t (v7_1 + v208_3) hb) (show 68 < 120 by decide) rfl rfl rfl rfl (Nat.le_of_ble_eq_true rfl) ⟨by decide, by decide⟩ ?_
          refine ev_iadd (pc := 238) dX12_cut_238 ?_
          refine ev_bipush (pc := 239) (v := 48) dX12_cut_239 (by decide) ?_
          refine ev_isub (pc := 241) dX12_cut_241 ?_
          refine ev_is (y := (q242_X12_cut_68 n I A J t I7 A7 J7 v7_1 v208_3 v208_4)) rfl ?_
          refine ev_istore_4 (pc := 242) dX12_cut_242 (by decide) rfl ?_
          simp only [ql4m223_X12_cut_68, if_neg c_223] at hJ_223
          exact ev_loc hJ_223 cw_le0
      refine ev_iinc_3 (pc := 244) (v := (q244_X12_cut_68 n I A J t I7 A7 J7 v7_1 v208_3 v208_4)) dX12_cut_244 (by decide) rfl rfl ?_
      refine ev_goto (pc := 247) (tgt := 208) dX12_cut_247 (by decide) ?_
      exact ev_loc (ih (q244_X12_cut_68 n I A J t I7 A7 J7 v7_1 v208_3 v208_4) (ql4m223_X12_cut_68 n I A J t I7 A7 J7 v7_1 v208_3 v208_4) w0 w1 hb h0 h1 hE) cw_le0

set_option maxRecDepth 100000 in
set_option maxHeartbeats 4000000 in
theorem lt_X12_cut_68_85 (g : cw_G) (n : Nat) (I : Nat → Nat → Int32) (A : Nat → Nat → Int32) (J : Nat → Nat → Int64) (t : Bool × Bool) (I7 : Nat → Nat → Int32) (A7 : Nat → Nat → Int32) (J7 : Nat → Nat → Int64) (v7_1 : Int32) {Q : Option Value → cw_H → Prop} : ∀ (f : Nat) (v85_3 : Int32) (v85_4 : Int64) (w0 : Int32) (w1 : Int64), lb_X12_cut_68_85 n I A J t I7 A7 J7 v7_1 f v85_3 v85_4 → (lp_X12_cut_68_85 n I A J t I7 A7 J7 v7_1 f v85_3 v85_4).1 = w0 → (lp_X12_cut_68_85 n I A J t I7 A7 J7 v7_1 f v85_3 v85_4).2 = w1 → Ev g mX12_cut 0 0 124 [some (.ref (cw_z g + 68)), some (.int v7_1), some (.int (q22_X12_cut_68 n I A J t I7 A7 J7 v7_1)), some (.int w0), some (.long w1), none, none, none] [] (hp g I7 A7 J7 t) Q → Ev g mX12_cut 0 0 85 [some (.ref (cw_z g + 68)), some (.int v7_1), some (.int (q22_X12_cut_68 n I A J t I7 A7 J7 v7_1)), some (.int v85_3), some (.long v85_4), none, none, none] [] (hp g I7 A7 J7 t) Q := by
  intro f
  induction f with
  | zero =>
    intro v85_3 v85_4 w0 w1 hb
    exact hb.elim
  | succ f ih =>
    intro v85_3 v85_4 w0 w1 hb h0 h1 hE
    rw [lb_X12_cut_68_85] at hb
    rw [lp_X12_cut_68_85] at h0 h1
    refine ev_aload_n (pc := 85) dX12_cut_85 rfl ?_
    refine ev_iload_n (pc := 86) dX12_cut_86 rfl ?_
    refine ev_iload_n (pc := 87) dX12_cut_87 rfl ?_
    refine ev_iadd (pc := 88) dX12_cut_88 ?_
    refine ev_Vi (pc := 89) dX12_cut_89 lk_X12_196 cd_X12_at ar_X12_at ⟨by decide, rfl, rfl⟩ (cv_X12_at_68 g n I7 A7 J7 t (v7_1 + v85_3) hb.1) (show 68 < 120 by decide) rfl rfl rfl rfl (Nat.le_of_ble_eq_true rfl) ⟨by decide, by decide⟩ ?_
    replace hb := hb.2
    refine ev_Si (pc := 92) dX12_cut_92 lk_X12_204 cd_X12_isLetter ar_X12_isLetter ⟨by decide, rfl, rfl⟩ (cv_X12_isLetter g n I7 A7 J7 t (px_X12_at_68 n I7 A7 J7 t (v7_1 + v85_3))) rfl rfl (Nat.le_of_ble_eq_true rfl) ⟨by decide, by decide⟩ ?_
    have hF_95 := hb
    refine ev_if_eq (pc := 95) (tgt := 124) dX12_cut_95 (by decide) (fun c_95 => ?_) (fun c_95 => ?_)
    · try simp only [if_pos c_95] at h0
      try simp only [if_pos c_95] at h1
      subst h0
      subst h1
      exact ev_loc hE cw_le0
    · have hb := hF_95 c_95
      try simp only [if_neg c_95] at h0
      try simp only [if_neg c_95] at h1
      refine ev_iload_n (pc := 98) dX12_cut_98 rfl ?_
      refine ev_bipush (pc := 99) (v := 8) dX12_cut_99 (by decide) ?_
      obtain ⟨hF_101, hb⟩ := hb
      refine ev_cut (pj := 118) (Lj := [some (.ref (cw_z g + 68)), some (.int v7_1), some (.int (q22_X12_cut_68 n I A J t I7 A7 J7 v7_1)), some (.int v85_3), some (.long (ql4m101_X12_cut_68 n I A J t I7 A7 J7 v7_1 v85_3 v85_4)), none, none, none]) (stj := []) (σj := hp g I7 A7 J7 t) ?_ (fun hJ_101 => ?_)
      rotate_left
      · refine ev_icmp_ge (pc := 101) (tgt := 118) dX12_cut_101 (by decide) (fun c_101 => ?_) (fun c_101 => ?_)
        · simp only [ql4m101_X12_cut_68, if_pos c_101] at hJ_101
          exact ev_loc hJ_101 cw_le0
        · have hb := hF_101 c_101
          refine ev_lload (pc := 104) dX12_cut_104 rfl ?_
          refine ev_aload_n (pc := 106) dX12_cut_106 rfl ?_
          refine ev_iload_n (pc := 107) dX12_cut_107 rfl ?_
          refine ev_iload_n (pc := 108) dX12_cut_108 rfl ?_
          refine ev_iadd (pc := 109) dX12_cut_109 ?_
          refine ev_Vi (pc := 110) dX12_cut_110 lk_X12_196 cd_X12_at ar_X12_at ⟨by decide, rfl, rfl⟩ (cv_X12_at_68 g n I7 A7 J7 t (v7_1 + v85_3) hb) (show 68 < 120 by decide) rfl rfl rfl rfl (Nat.le_of_ble_eq_true rfl) ⟨by decide, by decide⟩ ?_
          refine ev_Sl (pc := 113) dX12_cut_113 lk_X12_189 cd_X12_more ar_X12_more ⟨by decide, rfl, rfl⟩ (cv_X12_more g n I7 A7 J7 t v85_4 (px_X12_at_68 n I7 A7 J7 t (v7_1 + v85_3))) rfl rfl (Nat.le_of_ble_eq_true rfl) ⟨by decide, by decide⟩ ?_
          refine ev_isl (y := (q116_X12_cut_68 n I A J t I7 A7 J7 v7_1 v85_3 v85_4)) rfl ?_
          refine ev_lstore_4 (pc := 116) dX12_cut_116 (by decide) rfl ?_
          simp only [ql4m101_X12_cut_68, if_neg c_101] at hJ_101
          exact ev_loc hJ_101 cw_le0
      refine ev_iinc_3 (pc := 118) (v := (q118_X12_cut_68 n I A J t I7 A7 J7 v7_1 v85_3 v85_4)) dX12_cut_118 (by decide) rfl rfl ?_
      refine ev_goto (pc := 121) (tgt := 85) dX12_cut_121 (by decide) ?_
      exact ev_loc (ih (q118_X12_cut_68 n I A J t I7 A7 J7 v7_1 v85_3 v85_4) (ql4m101_X12_cut_68 n I A J t I7 A7 J7 v7_1 v85_3 v85_4) w0 w1 hb h0 h1 hE) cw_le0

set_option maxRecDepth 100000 in
set_option maxHeartbeats 4000000 in
theorem lt_X12_cut_68_146 (g : cw_G) (n : Nat) (I : Nat → Nat → Int32) (A : Nat → Nat → Int32) (J : Nat → Nat → Int64) (t : Bool × Bool) (I7 : Nat → Nat → Int32) (A7 : Nat → Nat → Int32) (J7 : Nat → Nat → Int64) (v7_1 : Int32) {Q : Option Value → cw_H → Prop} : ∀ (f : Nat) (v146_6 : Int32) (v146_7 : Int32) (w0 : Int32) (w1 : Int32), lb_X12_cut_68_146 n I A J t I7 A7 J7 v7_1 f v146_6 v146_7 → (lp_X12_cut_68_146 n I A J t I7 A7 J7 v7_1 f v146_6 v146_7).1 = w0 → (lp_X12_cut_68_146 n I A J t I7 A7 J7 v7_1 f v146_6 v146_7).2 = w1 → Ev g mX12_cut 0 0 179 [some (.ref (cw_z g + 68)), some (.int v7_1), some (.int (q22_X12_cut_68 n I A J t I7 A7 J7 v7_1)), some (.int (q3w85_X12_cut_68 n I A J t I7 A7 J7 v7_1)), some (.long (q4w85_X12_cut_68 n I A J t I7 A7 J7 v7_1)), none, some (.int w0), some (.int w1)] [] (hp g I7 A7 J7 t) Q → Ev g mX12_cut 0 0 146 [some (.ref (cw_z g + 68)), some (.int v7_1), some (.int (q22_X12_cut_68 n I A J t I7 A7 J7 v7_1)), some (.int (q3w85_X12_cut_68 n I A J t I7 A7 J7 v7_1)), some (.long (q4w85_X12_cut_68 n I A J t I7 A7 J7 v7_1)), none, some (.int v146_6), some (.int v146_7)] [] (hp g I7 A7 J7 t) Q := by
  intro f
  induction f with
  | zero =>
    intro v146_6 v146_7 w0 w1 hb
    exact hb.elim
  | succ f ih =>
    intro v146_6 v146_7 w0 w1 hb h0 h1 hE
    rw [lb_X12_cut_68_146] at hb
    rw [lp_X12_cut_68_146] at h0 h1
    refine ev_iload (pc := 146) dX12_cut_146 rfl ?_
    refine ev_bipush (pc := 148) (v := 15) dX12_cut_148 (by decide) ?_
    have hF_150 := hb
    refine ev_icmp_ge (pc := 150) (tgt := 179) dX12_cut_150 (by decide) (fun c_150 => ?_) (fun c_150 => ?_)
    · try simp only [if_pos c_150] at h0
      try simp only [if_pos c_150] at h1
      subst h0
      subst h1
      exact ev_loc hE cw_le0
    · have hb := hF_150 c_150
      try simp only [if_neg c_150] at h0
      try simp only [if_neg c_150] at h1
      refine ev_aload_n (pc := 153) dX12_cut_153 rfl ?_
      refine tv_getr (pc := 154) (d := 75) dX12_cut_154 fl_X12_34 (by decide) rfl rfl ?_
      refine ev_iload (pc := 157) dX12_cut_157 rfl ?_
      refine ev_lald (pc := 159) dX12_cut_159 (by decide) rfl hb.1 ?_
      replace hb := hb.2
      refine ev_lload (pc := 160) dX12_cut_160 rfl ?_
      refine ev_lcmp (pc := 162) dX12_cut_162 ?_
      refine ev_cut (pj := 173) (Lj := [some (.ref (cw_z g + 68)), some (.int v7_1), some (.int (q22_X12_cut_68 n I A J t I7 A7 J7 v7_1)), some (.int (q3w85_X12_cut_68 n I A J t I7 A7 J7 v7_1)), some (.long (q4w85_X12_cut_68 n I A J t I7 A7 J7 v7_1)), none, some (.int (ql6m163_X12_cut_68 n I A J t I7 A7 J7 v7_1 v146_6 v146_7)), some (.int v146_7)]) (stj := []) (σj := hp g I7 A7 J7 t) ?_ (fun hJ_163 => ?_)
      rotate_left
      · refine ev_if_ne (pc := 163) (tgt := 173) dX12_cut_163 (by decide) (fun c_163 => ?_) (fun c_163 => ?_)
        · simp only [ql6m163_X12_cut_68, if_neg c_163] at hJ_163
          exact ev_loc hJ_163 cw_le0
        · refine ev_bipush (pc := 166) (v := 20) dX12_cut_166 (by decide) ?_
          refine ev_iload (pc := 168) dX12_cut_168 rfl ?_
          refine ev_iadd (pc := 170) dX12_cut_170 ?_
          refine ev_is (y := (q171_X12_cut_68 n I A J t I7 A7 J7 v7_1 v146_6 v146_7)) rfl ?_
          refine ev_istore_6 (pc := 171) dX12_cut_171 (by decide) rfl ?_
          simp only [ql6m163_X12_cut_68, if_pos c_163] at hJ_163
          exact ev_loc hJ_163 cw_le0
      refine ev_iinc_7 (pc := 173) (v := (q173_X12_cut_68 n I A J t I7 A7 J7 v7_1 v146_6 v146_7)) dX12_cut_173 (by decide) rfl rfl ?_
      refine ev_goto (pc := 176) (tgt := 146) dX12_cut_176 (by decide) ?_
      exact ev_loc (ih (ql6m163_X12_cut_68 n I A J t I7 A7 J7 v7_1 v146_6 v146_7) (q173_X12_cut_68 n I A J t I7 A7 J7 v7_1 v146_6 v146_7) w0 w1 hb h0 h1 hE) cw_le0

set_option maxRecDepth 100000 in
set_option maxHeartbeats 4000000 in
theorem lt_X12_cut_68_7 (g : cw_G) (n : Nat) (I : Nat → Nat → Int32) (A : Nat → Nat → Int32) (J : Nat → Nat → Int64) (t : Bool × Bool) : ∀ (f : Nat) (I7 : Nat → Nat → Int32) (A7 : Nat → Nat → Int32) (J7 : Nat → Nat → Int64) (v7_1 : Int32), lb_X12_cut_68_7 n I A J t f I7 A7 J7 v7_1 → Ev g mX12_cut 0 0 7 [some (.ref (cw_z g + 68)), some (.int v7_1), none, none, none, none, none, none] [] (hp g I7 A7 J7 t) (fun r2 τ2 => r2 = none ∧ τ2 = (hp g (lp_X12_cut_68_7 n I A J t f I7 A7 J7 v7_1).1 (lp_X12_cut_68_7 n I A J t f I7 A7 J7 v7_1).2.1 (lp_X12_cut_68_7 n I A J t f I7 A7 J7 v7_1).2.2 t)) := by
  intro f
  induction f with
  | zero =>
    intro I7 A7 J7 v7_1 hb
    exact hb.elim
  | succ f ih =>
    intro I7 A7 J7 v7_1 hb
    rw [lb_X12_cut_68_7] at hb
    refine ev_gen (fun Q hQ => ?_)
    rw [lp_X12_cut_68_7] at hQ
    refine ev_aload_n (pc := 7) dX12_cut_7 rfl ?_
    refine tv_geti (pc := 8) dX12_cut_8 fl_X12_193 (by decide) rfl rfl ?_
    refine ev_sipush (pc := 11) (v := 400) dX12_cut_11 (by decide) ?_
    have hF_14 := hb
    refine ev_icmp_gt (pc := 14) (tgt := 294) dX12_cut_14 (by decide) (fun c_14 => ?_) (fun c_14 => ?_)
    · try simp only [if_pos c_14] at hQ
      exact ev_vret (pc := 294) dX12_cut_294 rfl (by decide) (by decide) (hQ _ _ ⟨rfl, rfl⟩)
    · have hb := hF_14 c_14
      try simp only [if_neg c_14] at hQ
      refine ev_aload_n (pc := 17) dX12_cut_17 rfl ?_
      refine ev_iload_n (pc := 18) dX12_cut_18 rfl ?_
      refine ev_Vi (pc := 19) dX12_cut_19 lk_X12_196 cd_X12_at ar_X12_at ⟨by decide, rfl, rfl⟩ (cv_X12_at_68 g n I7 A7 J7 t v7_1 hb.1) (show 68 < 120 by decide) rfl rfl rfl rfl (Nat.le_of_ble_eq_true rfl) ⟨by decide, by decide⟩ ?_
      replace hb := hb.2
      refine ev_is (y := (q22_X12_cut_68 n I A J t I7 A7 J7 v7_1)) rfl ?_
      refine ev_istore_2 (pc := 22) dX12_cut_22 (by decide) rfl ?_
      refine ev_iload_n (pc := 23) dX12_cut_23 rfl ?_
      refine ev_aload_n (pc := 24) dX12_cut_24 rfl ?_
      refine tv_geti (pc := 25) dX12_cut_25 fl_X12_184 (by decide) rfl rfl ?_
      obtain ⟨hT_28, hF_28⟩ := hb
      refine ev_icmp_lt (pc := 28) (tgt := 43) dX12_cut_28 (by decide) (fun c_28 => ?_) (fun c_28 => ?_)
      · have hb := hT_28 c_28
        try simp only [if_pos c_28] at hQ
        refine ev_iload_n (pc := 43) dX12_cut_43 rfl ?_
        refine ev_bipush (pc := 44) (v := 9) dX12_cut_44 (by decide) ?_
        obtain ⟨hF_46, hb⟩ := hb
        refine ev_cut (pj := 291) (Lj := [some (.ref (cw_z g + 68)), some (.int (ql1m46_X12_cut_68 n I A J t I7 A7 J7 v7_1)), some (.int (q22_X12_cut_68 n I A J t I7 A7 J7 v7_1)), none, none, none, none, none]) (stj := []) (σj := hp g (qIm46_X12_cut_68 n I A J t I7 A7 J7 v7_1) (qAm46_X12_cut_68 n I A J t I7 A7 J7 v7_1) (qJm46_X12_cut_68 n I A J t I7 A7 J7 v7_1) t) ?_ (fun hJ_46 => ?_)
        rotate_left
        · refine ev_icmp_eq (pc := 46) (tgt := 67) dX12_cut_46 (by decide) (fun c_46 => ?_) (fun c_46 => ?_)
          · refine ev_iinc_1 (pc := 67) (v := (q67_X12_cut_68 n I A J t I7 A7 J7 v7_1)) dX12_cut_67 (by decide) rfl rfl ?_
            refine ev_goto (pc := 70) (tgt := 291) dX12_cut_70 (by decide) ?_
            simp only [qIm46_X12_cut_68, qAm46_X12_cut_68, qJm46_X12_cut_68, ql1m46_X12_cut_68, if_pos c_46] at hJ_46
            exact ev_loc hJ_46 cw_le0
          · have hb := hF_46 c_46
            refine ev_iload_n (pc := 49) dX12_cut_49 rfl ?_
            refine ev_bipush (pc := 50) (v := 10) dX12_cut_50 (by decide) ?_
            have hF_52 := hb
            refine ev_cut (pj := 291) (Lj := [some (.ref (cw_z g + 68)), some (.int (ql1m52_X12_cut_68 n I A J t I7 A7 J7 v7_1)), some (.int (q22_X12_cut_68 n I A J t I7 A7 J7 v7_1)), none, none, none, none, none]) (stj := []) (σj := hp g (qIm52_X12_cut_68 n I A J t I7 A7 J7 v7_1) (qAm52_X12_cut_68 n I A J t I7 A7 J7 v7_1) (qJm52_X12_cut_68 n I A J t I7 A7 J7 v7_1) t) ?_ (fun hJ_52 => ?_)
            rotate_left
            · refine ev_icmp_eq (pc := 52) (tgt := 67) dX12_cut_52 (by decide) (fun c_52 => ?_) (fun c_52 => ?_)
              · refine ev_iinc_1 (pc := 67) (v := (q67_X12_cut_68 n I A J t I7 A7 J7 v7_1)) dX12_cut_67 (by decide) rfl rfl ?_
                refine ev_goto (pc := 70) (tgt := 291) dX12_cut_70 (by decide) ?_
                simp only [qIm52_X12_cut_68, qAm52_X12_cut_68, qJm52_X12_cut_68, ql1m52_X12_cut_68, if_pos c_52] at hJ_52
                exact ev_loc hJ_52 cw_le0
              · have hb := hF_52 c_52
                refine ev_iload_n (pc := 55) dX12_cut_55 rfl ?_
                refine ev_bipush (pc := 56) (v := 13) dX12_cut_56 (by decide) ?_
                have hF_58 := hb
                refine ev_cut (pj := 291) (Lj := [some (.ref (cw_z g + 68)), some (.int (ql1m58_X12_cut_68 n I A J t I7 A7 J7 v7_1)), some (.int (q22_X12_cut_68 n I A J t I7 A7 J7 v7_1)), none, none, none, none, none]) (stj := []) (σj := hp g (qIm58_X12_cut_68 n I A J t I7 A7 J7 v7_1) (qAm58_X12_cut_68 n I A J t I7 A7 J7 v7_1) (qJm58_X12_cut_68 n I A J t I7 A7 J7 v7_1) t) ?_ (fun hJ_58 => ?_)
                rotate_left
                · refine ev_icmp_eq (pc := 58) (tgt := 67) dX12_cut_58 (by decide) (fun c_58 => ?_) (fun c_58 => ?_)
                  · refine ev_iinc_1 (pc := 67) (v := (q67_X12_cut_68 n I A J t I7 A7 J7 v7_1)) dX12_cut_67 (by decide) rfl rfl ?_
                    refine ev_goto (pc := 70) (tgt := 291) dX12_cut_70 (by decide) ?_
                    simp only [qIm58_X12_cut_68, qAm58_X12_cut_68, qJm58_X12_cut_68, ql1m58_X12_cut_68, if_pos c_58] at hJ_58
                    exact ev_loc hJ_58 cw_le0
                  · have hb := hF_58 c_58
                    refine ev_iload_n (pc := 61) dX12_cut_61 rfl ?_
                    refine ev_bipush (pc := 62) (v := 32) dX12_cut_62 (by decide) ?_
                    have hT_64 := hb
                    refine ev_cut (pj := 291) (Lj := [some (.ref (cw_z g + 68)), some (.int (ql1m64_X12_cut_68 n I A J t I7 A7 J7 v7_1)), some (.int (q22_X12_cut_68 n I A J t I7 A7 J7 v7_1)), none, none, none, none, none]) (stj := []) (σj := hp g (qIm64_X12_cut_68 n I A J t I7 A7 J7 v7_1) (qAm64_X12_cut_68 n I A J t I7 A7 J7 v7_1) (qJm64_X12_cut_68 n I A J t I7 A7 J7 v7_1) t) ?_ (fun hJ_64 => ?_)
                    rotate_left
                    · refine ev_icmp_ne (pc := 64) (tgt := 73) dX12_cut_64 (by decide) (fun c_64 => ?_) (fun c_64 => ?_)
                      · have hb := hT_64 c_64
                        refine ev_iload_n (pc := 73) dX12_cut_73 rfl ?_
                        refine ev_Si (pc := 74) dX12_cut_74 lk_X12_204 cd_X12_isLetter ar_X12_isLetter ⟨by decide, rfl, rfl⟩ (cv_X12_isLetter g n I7 A7 J7 t (q22_X12_cut_68 n I A J t I7 A7 J7 v7_1)) rfl rfl (Nat.le_of_ble_eq_true rfl) ⟨by decide, by decide⟩ ?_
                        obtain ⟨hT_77, hF_77⟩ := hb
                        refine ev_cut (pj := 291) (Lj := [some (.ref (cw_z g + 68)), some (.int (ql1m77_X12_cut_68 n I A J t I7 A7 J7 v7_1)), some (.int (q22_X12_cut_68 n I A J t I7 A7 J7 v7_1)), none, none, none, none, none]) (stj := []) (σj := hp g (qIm77_X12_cut_68 n I A J t I7 A7 J7 v7_1) (qAm77_X12_cut_68 n I A J t I7 A7 J7 v7_1) (qJm77_X12_cut_68 n I A J t I7 A7 J7 v7_1) t) ?_ (fun hJ_77 => ?_)
                        rotate_left
                        · refine ev_if_eq (pc := 77) (tgt := 196) dX12_cut_77 (by decide) (fun c_77 => ?_) (fun c_77 => ?_)
                          · have hb := hT_77 c_77
                            refine ev_iload_n (pc := 196) dX12_cut_196 rfl ?_
                            refine ev_Si (pc := 197) dX12_cut_197 lk_X12_208 cd_X12_isDigit ar_X12_isDigit ⟨by decide, rfl, rfl⟩ (cv_X12_isDigit g n I7 A7 J7 t (q22_X12_cut_68 n I A J t I7 A7 J7 v7_1)) rfl rfl (Nat.le_of_ble_eq_true rfl) ⟨by decide, by decide⟩ ?_
                            obtain ⟨hT_200, hF_200⟩ := hb
                            refine ev_cut (pj := 291) (Lj := [some (.ref (cw_z g + 68)), some (.int (ql1m200_X12_cut_68 n I A J t I7 A7 J7 v7_1)), some (.int (q22_X12_cut_68 n I A J t I7 A7 J7 v7_1)), none, none, none, none, none]) (stj := []) (σj := hp g (qIm200_X12_cut_68 n I A J t I7 A7 J7 v7_1) (qAm200_X12_cut_68 n I A J t I7 A7 J7 v7_1) (qJm200_X12_cut_68 n I A J t I7 A7 J7 v7_1) t) ?_ (fun hJ_200 => ?_)
                            rotate_left
                            · refine ev_if_eq (pc := 200) (tgt := 275) dX12_cut_200 (by decide) (fun c_200 => ?_) (fun c_200 => ?_)
                              · have hb := hT_200 c_200
                                refine ev_iload_n (pc := 275) dX12_cut_275 rfl ?_
                                refine ev_aload_n (pc := 276) dX12_cut_276 rfl ?_
                                refine ev_iload_n (pc := 277) dX12_cut_277 rfl ?_
                                refine ev_iload_n (pc := 278) dX12_cut_278 rfl ?_
                                refine ev_aload_n (pc := 279) dX12_cut_279 rfl ?_
                                refine ev_iload_n (pc := 280) dX12_cut_280 rfl ?_
                                refine ev_iconst (pc := 281) (v := 1) dX12_cut_281 (by decide) ?_
                                refine ev_iadd (pc := 282) dX12_cut_282 ?_
                                refine ev_Vi (pc := 283) dX12_cut_283 lk_X12_196 cd_X12_at ar_X12_at ⟨by decide, rfl, rfl⟩ (cv_X12_at_68 g n I7 A7 J7 t (v7_1 + 1) hb.1) (show 68 < 120 by decide) rfl rfl rfl rfl (Nat.le_of_ble_eq_true rfl) ⟨by decide, by decide⟩ ?_
                                replace hb := hb.2
                                refine ev_Vi (pc := 286) dX12_cut_286 lk_X12_211 cd_X12_sign ar_X12_sign ⟨by decide, rfl, rfl⟩ (cv_X12_sign_68 g n I7 A7 J7 t v7_1 (q22_X12_cut_68 n I A J t I7 A7 J7 v7_1) (px_X12_at_68 n I7 A7 J7 t (v7_1 + 1)) hb) (show 68 < 120 by decide) rfl rfl rfl rfl (Nat.le_of_ble_eq_true rfl) ⟨by decide, by decide⟩ ?_
                                refine ev_iadd (pc := 289) dX12_cut_289 ?_
                                refine ev_is (y := (q290_X12_cut_68 n I A J t I7 A7 J7 v7_1)) rfl ?_
                                refine ev_istore_1 (pc := 290) dX12_cut_290 (by decide) rfl ?_
                                simp only [qIm200_X12_cut_68, qAm200_X12_cut_68, qJm200_X12_cut_68, ql1m200_X12_cut_68, if_pos c_200] at hJ_200
                                exact ev_loc hJ_200 cw_le0
                              · have hb := hF_200 c_200
                                refine ev_iconst (pc := 203) (v := 0) dX12_cut_203 (by decide) ?_
                                refine ev_istore_3 (pc := 204) dX12_cut_204 (by decide) rfl ?_
                                refine ev_iconst (pc := 205) (v := 0) dX12_cut_205 (by decide) ?_
                                refine ev_istore_4 (pc := 206) dX12_cut_206 (by decide) rfl ?_
                                refine lt_X12_cut_68_208 g n I A J t I7 A7 J7 v7_1 n 0 0 (q3w208_X12_cut_68 n I A J t I7 A7 J7 v7_1) (q4w208_X12_cut_68 n I A J t I7 A7 J7 v7_1) hb.1 rfl rfl ?_
                                replace hb := hb.2
                                refine ev_aload_n (pc := 250) dX12_cut_250 rfl ?_
                                refine ev_iload_n (pc := 251) dX12_cut_251 rfl ?_
                                refine ev_iconst (pc := 252) (v := 4) dX12_cut_252 (by decide) ?_
                                refine ev_cut (pj := 261) (Lj := [some (.ref (cw_z g + 68)), some (.int v7_1), some (.int (q22_X12_cut_68 n I A J t I7 A7 J7 v7_1)), some (.int (q3w208_X12_cut_68 n I A J t I7 A7 J7 v7_1)), some (.int (q4w208_X12_cut_68 n I A J t I7 A7 J7 v7_1)), none, none, none]) (stj := [(.int (qs1m253_X12_cut_68 n I A J t I7 A7 J7 v7_1)), (.ref (cw_z g + 68))]) (σj := hp g I7 A7 J7 t) ?_ (fun hJ_253 => ?_)
                                rotate_left
                                · refine ev_icmp_le (pc := 253) (tgt := 260) dX12_cut_253 (by decide) (fun c_253 => ?_) (fun c_253 => ?_)
                                  · refine ev_iconst (pc := 260) (v := 2) dX12_cut_260 (by decide) ?_
                                    simp only [qs1m253_X12_cut_68, if_pos c_253] at hJ_253
                                    exact ev_loc hJ_253 cw_le0
                                  · refine ev_iconst (pc := 256) (v := 3) dX12_cut_256 (by decide) ?_
                                    refine ev_goto (pc := 257) (tgt := 261) dX12_cut_257 (by decide) ?_
                                    simp only [qs1m253_X12_cut_68, if_neg c_253] at hJ_253
                                    exact ev_loc hJ_253 cw_le0
                                refine ev_iload_n (pc := 261) dX12_cut_261 rfl ?_
                                refine ev_iload (pc := 262) dX12_cut_262 rfl ?_
                                refine ev_lconst (pc := 264) (v := 0) dX12_cut_264 (by decide) ?_
                                refine ev_Vv (pc := 265) dX12_cut_265 lk_X12_200 cd_X12_token ar_X12_token ⟨by decide, rfl, rfl⟩ (cv_X12_token_68 g n I7 A7 J7 t (qs1m253_X12_cut_68 n I A J t I7 A7 J7 v7_1) v7_1 (q4w208_X12_cut_68 n I A J t I7 A7 J7 v7_1) 0 hb) (show 68 < 120 by decide) rfl rfl rfl rfl (Nat.le_of_ble_eq_true rfl) ⟨by decide, by decide⟩ ?_
                                refine ev_iload_n (pc := 268) dX12_cut_268 rfl ?_
                                refine ev_iload_n (pc := 269) dX12_cut_269 rfl ?_
                                refine ev_iadd (pc := 270) dX12_cut_270 ?_
                                refine ev_is (y := (q271_X12_cut_68 n I A J t I7 A7 J7 v7_1)) rfl ?_
                                refine ev_istore_1 (pc := 271) dX12_cut_271 (by decide) rfl ?_
                                refine ev_goto (pc := 272) (tgt := 291) dX12_cut_272 (by decide) ?_
                                simp only [qIm200_X12_cut_68, qAm200_X12_cut_68, qJm200_X12_cut_68, ql1m200_X12_cut_68, if_neg c_200] at hJ_200
                                exact ev_loc hJ_200 (cw_leS (cw_leS (cw_leS (cw_leN (cw_leN cw_le0)))))
                            simp only [qIm77_X12_cut_68, qAm77_X12_cut_68, qJm77_X12_cut_68, ql1m77_X12_cut_68, if_pos c_77] at hJ_77
                            exact ev_loc hJ_77 cw_le0
                          · have hb := hF_77 c_77
                            refine ev_iconst (pc := 80) (v := 0) dX12_cut_80 (by decide) ?_
                            refine ev_istore_3 (pc := 81) dX12_cut_81 (by decide) rfl ?_
                            refine ev_lconst (pc := 82) (v := 0) dX12_cut_82 (by decide) ?_
                            refine ev_lstore_4 (pc := 83) dX12_cut_83 (by decide) rfl ?_
                            refine lt_X12_cut_68_85 g n I A J t I7 A7 J7 v7_1 n 0 0 (q3w85_X12_cut_68 n I A J t I7 A7 J7 v7_1) (q4w85_X12_cut_68 n I A J t I7 A7 J7 v7_1) hb.1 rfl rfl ?_
                            replace hb := hb.2
                            refine ev_iload_n (pc := 124) dX12_cut_124 rfl ?_
                            refine ev_bipush (pc := 125) (v := 8) dX12_cut_125 (by decide) ?_
                            refine ev_cut (pj := 135) (Lj := [some (.ref (cw_z g + 68)), some (.int v7_1), some (.int (q22_X12_cut_68 n I A J t I7 A7 J7 v7_1)), some (.int (q3w85_X12_cut_68 n I A J t I7 A7 J7 v7_1)), some (.long (q4w85_X12_cut_68 n I A J t I7 A7 J7 v7_1)), none, none, none]) (stj := [(.int (qs0m127_X12_cut_68 n I A J t I7 A7 J7 v7_1))]) (σj := hp g I7 A7 J7 t) ?_ (fun hJ_127 => ?_)
                            rotate_left
                            · refine ev_icmp_le (pc := 127) (tgt := 134) dX12_cut_127 (by decide) (fun c_127 => ?_) (fun c_127 => ?_)
                              · refine ev_iconst (pc := 134) (v := 1) dX12_cut_134 (by decide) ?_
                                simp only [qs0m127_X12_cut_68, if_pos c_127] at hJ_127
                                exact ev_loc hJ_127 cw_le0
                              · refine ev_iconst (pc := 130) (v := 3) dX12_cut_130 (by decide) ?_
                                refine ev_goto (pc := 131) (tgt := 135) dX12_cut_131 (by decide) ?_
                                simp only [qs0m127_X12_cut_68, if_neg c_127] at hJ_127
                                exact ev_loc hJ_127 cw_le0
                            refine ev_istore_6 (pc := 135) dX12_cut_135 (by decide) rfl ?_
                            refine ev_iload_n (pc := 137) dX12_cut_137 rfl ?_
                            refine ev_bipush (pc := 138) (v := 6) dX12_cut_138 (by decide) ?_
                            obtain ⟨hF_140, hb⟩ := hb
                            refine ev_cut (pj := 179) (Lj := [some (.ref (cw_z g + 68)), some (.int v7_1), some (.int (q22_X12_cut_68 n I A J t I7 A7 J7 v7_1)), some (.int (q3w85_X12_cut_68 n I A J t I7 A7 J7 v7_1)), some (.long (q4w85_X12_cut_68 n I A J t I7 A7 J7 v7_1)), none, some (.int (ql6m140_X12_cut_68 n I A J t I7 A7 J7 v7_1)), none]) (stj := []) (σj := hp g I7 A7 J7 t) ?_ (fun hJ_140 => ?_)
                            rotate_left
                            · refine ev_icmp_gt (pc := 140) (tgt := 179) dX12_cut_140 (by decide) (fun c_140 => ?_) (fun c_140 => ?_)
                              · simp only [ql6m140_X12_cut_68, if_pos c_140] at hJ_140
                                exact ev_loc hJ_140 cw_le0
                              · have hb := hF_140 c_140
                                refine ev_iconst (pc := 143) (v := 0) dX12_cut_143 (by decide) ?_
                                refine ev_istore_7 (pc := 144) dX12_cut_144 (by decide) rfl ?_
                                refine lt_X12_cut_68_146 g n I A J t I7 A7 J7 v7_1 n (qs0m127_X12_cut_68 n I A J t I7 A7 J7 v7_1) 0 (q6w146_X12_cut_68 n I A J t I7 A7 J7 v7_1) (q7w146_X12_cut_68 n I A J t I7 A7 J7 v7_1) hb rfl rfl ?_
                                simp only [ql6m140_X12_cut_68, if_neg c_140] at hJ_140
                                exact ev_loc hJ_140 (cw_leS (cw_leS (cw_leS (cw_leS (cw_leS (cw_leS (cw_leS (cw_leN cw_le0))))))))
                            refine ev_aload_n (pc := 179) dX12_cut_179 rfl ?_
                            refine ev_iload (pc := 180) dX12_cut_180 rfl ?_
                            refine ev_iload_n (pc := 182) dX12_cut_182 rfl ?_
                            refine ev_iconst (pc := 183) (v := 0) dX12_cut_183 (by decide) ?_
                            refine ev_lload (pc := 184) dX12_cut_184 rfl ?_
                            refine ev_Vv (pc := 186) dX12_cut_186 lk_X12_200 cd_X12_token ar_X12_token ⟨by decide, rfl, rfl⟩ (cv_X12_token_68 g n I7 A7 J7 t (ql6m140_X12_cut_68 n I A J t I7 A7 J7 v7_1) v7_1 0 (q4w85_X12_cut_68 n I A J t I7 A7 J7 v7_1) hb) (show 68 < 120 by decide) rfl rfl rfl rfl (Nat.le_of_ble_eq_true rfl) ⟨by decide, by decide⟩ ?_
                            refine ev_iload_n (pc := 189) dX12_cut_189 rfl ?_
                            refine ev_iload_n (pc := 190) dX12_cut_190 rfl ?_
                            refine ev_iadd (pc := 191) dX12_cut_191 ?_
                            refine ev_is (y := (q192_X12_cut_68 n I A J t I7 A7 J7 v7_1)) rfl ?_
                            refine ev_istore_1 (pc := 192) dX12_cut_192 (by decide) rfl ?_
                            refine ev_goto (pc := 193) (tgt := 291) dX12_cut_193 (by decide) ?_
                            simp only [qIm77_X12_cut_68, qAm77_X12_cut_68, qJm77_X12_cut_68, ql1m77_X12_cut_68, if_neg c_77] at hJ_77
                            exact ev_loc hJ_77 (cw_leS (cw_leS (cw_leS (cw_leN (cw_leN (cw_leS (cw_leN cw_le0)))))))
                        simp only [qIm64_X12_cut_68, qAm64_X12_cut_68, qJm64_X12_cut_68, ql1m64_X12_cut_68, if_neg c_64] at hJ_64
                        exact ev_loc hJ_64 cw_le0
                      · refine ev_iinc_1 (pc := 67) (v := (q67_X12_cut_68 n I A J t I7 A7 J7 v7_1)) dX12_cut_67 (by decide) rfl rfl ?_
                        refine ev_goto (pc := 70) (tgt := 291) dX12_cut_70 (by decide) ?_
                        simp only [qIm64_X12_cut_68, qAm64_X12_cut_68, qJm64_X12_cut_68, ql1m64_X12_cut_68, if_pos c_64] at hJ_64
                        exact ev_loc hJ_64 cw_le0
                    simp only [qIm58_X12_cut_68, qAm58_X12_cut_68, qJm58_X12_cut_68, ql1m58_X12_cut_68, if_neg c_58] at hJ_58
                    exact ev_loc hJ_58 cw_le0
                simp only [qIm52_X12_cut_68, qAm52_X12_cut_68, qJm52_X12_cut_68, ql1m52_X12_cut_68, if_neg c_52] at hJ_52
                exact ev_loc hJ_52 cw_le0
            simp only [qIm46_X12_cut_68, qAm46_X12_cut_68, qJm46_X12_cut_68, ql1m46_X12_cut_68, if_neg c_46] at hJ_46
            exact ev_loc hJ_46 cw_le0
        refine ev_goto (pc := 291) (tgt := 7) dX12_cut_291 (by decide) ?_
        exact ev_mono (ev_loc (ih (qIm46_X12_cut_68 n I A J t I7 A7 J7 v7_1) (qAm46_X12_cut_68 n I A J t I7 A7 J7 v7_1) (qJm46_X12_cut_68 n I A J t I7 A7 J7 v7_1) (ql1m46_X12_cut_68 n I A J t I7 A7 J7 v7_1) hb) (cw_leS (cw_leS (cw_leN cw_le0)))) hQ
      · have hb := hF_28 c_28
        try simp only [if_neg c_28] at hQ
        refine ev_aload_n (pc := 31) dX12_cut_31 rfl ?_
        refine ev_iconst (pc := 32) (v := 0) dX12_cut_32 (by decide) ?_
        refine ev_aload_n (pc := 33) dX12_cut_33 rfl ?_
        refine tv_geti (pc := 34) dX12_cut_34 fl_X12_184 (by decide) rfl rfl ?_
        refine ev_iconst (pc := 37) (v := 0) dX12_cut_37 (by decide) ?_
        refine ev_lconst (pc := 38) (v := 0) dX12_cut_38 (by decide) ?_
        refine ev_Vv (pc := 39) dX12_cut_39 lk_X12_200 cd_X12_token ar_X12_token ⟨by decide, rfl, rfl⟩ (cv_X12_token_68 g n I7 A7 J7 t 0 (I7 68 4) 0 0 hb) (show 68 < 120 by decide) rfl rfl rfl rfl (Nat.le_of_ble_eq_true rfl) ⟨by decide, by decide⟩ ?_
        exact ev_vret (pc := 42) dX12_cut_42 rfl (by decide) (by decide) (hQ _ _ ⟨rfl, rfl⟩)

set_option maxRecDepth 100000 in
set_option maxHeartbeats 4000000 in
theorem cv_X12_cut_68 (g : cw_G) (n : Nat) (I : Nat → Nat → Int32) (A : Nat → Nat → Int32) (J : Nat → Nat → Int64) (t : Bool × Bool) (hb : pb_X12_cut_68 n I A J t) : Cd g mX12_cut [(.ref (cw_z g + 68))] (hp g I A J t) none (hp g (pI_X12_cut_68 n I A J t) (pA_X12_cut_68 n I A J t) (pJ_X12_cut_68 n I A J t) t) := by
  unfold pb_X12_cut_68 at hb
  unfold pI_X12_cut_68 pA_X12_cut_68 pJ_X12_cut_68
  refine Cd.of rfl (Nat.le_of_ble_eq_true rfl) (ev_gen (fun Q hQ => ?_))
  refine ev_aload_n (pc := 0) dX12_cut_0 rfl ?_
  refine ev_iconst (pc := 1) (v := 0) dX12_cut_1 (by decide) ?_
  refine tw_puti (pc := 2) (I2 := (qI2_X12_cut_68 n I A J t)) dX12_cut_2 fp_X12_193 (by decide) rfl rfl rfl ?_
  refine ev_iconst (pc := 5) (v := 0) dX12_cut_5 (by decide) ?_
  refine ev_istore_1 (pc := 6) dX12_cut_6 (by decide) rfl ?_
  exact ev_mono (ev_loc (lt_X12_cut_68_7 g n I A J t n (qI2_X12_cut_68 n I A J t) A J 0 hb) cw_le0) hQ
