def q6_X12_fits_68 (n : Nat) (I : Nat → Nat → Int32) (A : Nat → Nat → Int32) (J : Nat → Nat → Int64) (t : Bool × Bool) (x1 : Int32) (x2 : Int32) (x3 : Int32) (x4 : Int32) (x5 : Int32) : Int32 := (((6 : Int32) * x1) + x2)
def qA15_X12_fits_68 (n : Nat) (I : Nat → Nat → Int32) (A : Nat → Nat → Int32) (J : Nat → Nat → Int64) (t : Bool × Bool) (x1 : Int32) (x2 : Int32) (x3 : Int32) (x4 : Int32) (x5 : Int32) : Nat → Nat → Int32 := cw_u A 114 ((q6_X12_fits_68 n I A J t x1 x2 x3 x4 x5)).toNatClampNeg (-1)
def q22_X12_fits_68 (n : Nat) (I : Nat → Nat → Int32) (A : Nat → Nat → Int32) (J : Nat → Nat → Int64) (t : Bool × Bool) (x1 : Int32) (x2 : Int32) (x3 : Int32) (x4 : Int32) (x5 : Int32) : Int32 := ((qA15_X12_fits_68 n I A J t x1 x2 x3 x4 x5) 94 (x1).toNatClampNeg)
def q66_X12_fits_68 (n : Nat) (I : Nat → Nat → Int32) (A : Nat → Nat → Int32) (J : Nat → Nat → Int64) (t : Bool × Bool) (x1 : Int32) (x2 : Int32) (x3 : Int32) (x4 : Int32) (x5 : Int32) : Int32 := ((pI_X12_goes_68 n I (qA15_X12_fits_68 n I A J t x1 x2 x3 x4 x5) J t ((8 : Int32) + ((qA15_X12_fits_68 n I A J t x1 x2 x3 x4 x5) 92 (x2).toNatClampNeg)) (q22_X12_fits_68 n I A J t x1 x2 x3 x4 x5)) 68 61)
def q114_X12_fits_68 (n : Nat) (I : Nat → Nat → Int32) (A : Nat → Nat → Int32) (J : Nat → Nat → Int64) (t : Bool × Bool) (x1 : Int32) (x2 : Int32) (x3 : Int32) (x4 : Int32) (x5 : Int32) (I93 : Nat → Nat → Int32) (A93 : Nat → Nat → Int32) (v93_9 : Int32) : Int32 := (px_X12_strengthOf_68 n I93 A93 J t x2 v93_9 (q22_X12_fits_68 n I A J t x1 x2 x3 x4 x5) x3 x4 x5)
def qA176_X12_fits_68 (n : Nat) (I : Nat → Nat → Int32) (A : Nat → Nat → Int32) (J : Nat → Nat → Int64) (t : Bool × Bool) (x1 : Int32) (x2 : Int32) (x3 : Int32) (x4 : Int32) (x5 : Int32) (I93 : Nat → Nat → Int32) (A93 : Nat → Nat → Int32) (v93_9 : Int32) : Nat → Nat → Int32 := cw_u (pA_X12_yieldsTo_68 n (pI_X12_strengthOf_68 n I93 A93 J t x2 v93_9 (q22_X12_fits_68 n I A J t x1 x2 x3 x4 x5) x3 x4 x5) A93 J t x2 v93_9 (q22_X12_fits_68 n I A J t x1 x2 x3 x4 x5) x3 x4 x5) 114 ((q6_X12_fits_68 n I A J t x1 x2 x3 x4 x5)).toNatClampNeg v93_9
def qA185_X12_fits_68 (n : Nat) (I : Nat → Nat → Int32) (A : Nat → Nat → Int32) (J : Nat → Nat → Int64) (t : Bool × Bool) (x1 : Int32) (x2 : Int32) (x3 : Int32) (x4 : Int32) (x5 : Int32) (I93 : Nat → Nat → Int32) (A93 : Nat → Nat → Int32) (v93_9 : Int32) : Nat → Nat → Int32 := cw_u (qA176_X12_fits_68 n I A J t x1 x2 x3 x4 x5 I93 A93 v93_9) 115 ((q6_X12_fits_68 n I A J t x1 x2 x3 x4 x5)).toNatClampNeg (q114_X12_fits_68 n I A J t x1 x2 x3 x4 x5 I93 A93 v93_9)
def qAm162_X12_fits_68 (n : Nat) (I : Nat → Nat → Int32) (A : Nat → Nat → Int32) (J : Nat → Nat → Int64) (t : Bool × Bool) (x1 : Int32) (x2 : Int32) (x3 : Int32) (x4 : Int32) (x5 : Int32) (I93 : Nat → Nat → Int32) (A93 : Nat → Nat → Int32) (v93_9 : Int32) : Nat → Nat → Int32 := if (px_X12_yieldsTo_68 n (pI_X12_strengthOf_68 n I93 A93 J t x2 v93_9 (q22_X12_fits_68 n I A J t x1 x2 x3 x4 x5) x3 x4 x5) A93 J t x2 v93_9 (q22_X12_fits_68 n I A J t x1 x2 x3 x4 x5) x3 x4 x5) = (-1) then (qA185_X12_fits_68 n I A J t x1 x2 x3 x4 x5 I93 A93 v93_9) else (pA_X12_yieldsTo_68 n (pI_X12_strengthOf_68 n I93 A93 J t x2 v93_9 (q22_X12_fits_68 n I A J t x1 x2 x3 x4 x5) x3 x4 x5) A93 J t x2 v93_9 (q22_X12_fits_68 n I A J t x1 x2 x3 x4 x5) x3 x4 x5)
def qIm144_X12_fits_68 (n : Nat) (I : Nat → Nat → Int32) (A : Nat → Nat → Int32) (J : Nat → Nat → Int64) (t : Bool × Bool) (x1 : Int32) (x2 : Int32) (x3 : Int32) (x4 : Int32) (x5 : Int32) (I93 : Nat → Nat → Int32) (A93 : Nat → Nat → Int32) (v93_9 : Int32) : Nat → Nat → Int32 := if (q114_X12_fits_68 n I A J t x1 x2 x3 x4 x5 I93 A93 v93_9) ≤ (A93 115 ((q6_X12_fits_68 n I A J t x1 x2 x3 x4 x5)).toNatClampNeg) then (pI_X12_strengthOf_68 n I93 A93 J t x2 v93_9 (q22_X12_fits_68 n I A J t x1 x2 x3 x4 x5) x3 x4 x5) else (pI_X12_yieldsTo_68 n (pI_X12_strengthOf_68 n I93 A93 J t x2 v93_9 (q22_X12_fits_68 n I A J t x1 x2 x3 x4 x5) x3 x4 x5) A93 J t x2 v93_9 (q22_X12_fits_68 n I A J t x1 x2 x3 x4 x5) x3 x4 x5)
def qAm144_X12_fits_68 (n : Nat) (I : Nat → Nat → Int32) (A : Nat → Nat → Int32) (J : Nat → Nat → Int64) (t : Bool × Bool) (x1 : Int32) (x2 : Int32) (x3 : Int32) (x4 : Int32) (x5 : Int32) (I93 : Nat → Nat → Int32) (A93 : Nat → Nat → Int32) (v93_9 : Int32) : Nat → Nat → Int32 := if (q114_X12_fits_68 n I A J t x1 x2 x3 x4 x5 I93 A93 v93_9) ≤ (A93 115 ((q6_X12_fits_68 n I A J t x1 x2 x3 x4 x5)).toNatClampNeg) then A93 else (qAm162_X12_fits_68 n I A J t x1 x2 x3 x4 x5 I93 A93 v93_9)
def qIm132_X12_fits_68 (n : Nat) (I : Nat → Nat → Int32) (A : Nat → Nat → Int32) (J : Nat → Nat → Int64) (t : Bool × Bool) (x1 : Int32) (x2 : Int32) (x3 : Int32) (x4 : Int32) (x5 : Int32) (I93 : Nat → Nat → Int32) (A93 : Nat → Nat → Int32) (v93_9 : Int32) : Nat → Nat → Int32 := if (A93 114 ((q6_X12_fits_68 n I A J t x1 x2 x3 x4 x5)).toNatClampNeg) = (-1) then (pI_X12_yieldsTo_68 n (pI_X12_strengthOf_68 n I93 A93 J t x2 v93_9 (q22_X12_fits_68 n I A J t x1 x2 x3 x4 x5) x3 x4 x5) A93 J t x2 v93_9 (q22_X12_fits_68 n I A J t x1 x2 x3 x4 x5) x3 x4 x5) else (qIm144_X12_fits_68 n I A J t x1 x2 x3 x4 x5 I93 A93 v93_9)
def qAm132_X12_fits_68 (n : Nat) (I : Nat → Nat → Int32) (A : Nat → Nat → Int32) (J : Nat → Nat → Int64) (t : Bool × Bool) (x1 : Int32) (x2 : Int32) (x3 : Int32) (x4 : Int32) (x5 : Int32) (I93 : Nat → Nat → Int32) (A93 : Nat → Nat → Int32) (v93_9 : Int32) : Nat → Nat → Int32 := if (A93 114 ((q6_X12_fits_68 n I A J t x1 x2 x3 x4 x5)).toNatClampNeg) = (-1) then (qAm162_X12_fits_68 n I A J t x1 x2 x3 x4 x5 I93 A93 v93_9) else (qAm144_X12_fits_68 n I A J t x1 x2 x3 x4 x5 I93 A93 v93_9)
def qIm121_X12_fits_68 (n : Nat) (I : Nat → Nat → Int32) (A : Nat → Nat → Int32) (J : Nat → Nat → Int64) (t : Bool × Bool) (x1 : Int32) (x2 : Int32) (x3 : Int32) (x4 : Int32) (x5 : Int32) (I93 : Nat → Nat → Int32) (A93 : Nat → Nat → Int32) (v93_9 : Int32) : Nat → Nat → Int32 := if (q114_X12_fits_68 n I A J t x1 x2 x3 x4 x5 I93 A93 v93_9) = (-1000000) then (pI_X12_strengthOf_68 n I93 A93 J t x2 v93_9 (q22_X12_fits_68 n I A J t x1 x2 x3 x4 x5) x3 x4 x5) else (qIm132_X12_fits_68 n I A J t x1 x2 x3 x4 x5 I93 A93 v93_9)
def qAm121_X12_fits_68 (n : Nat) (I : Nat → Nat → Int32) (A : Nat → Nat → Int32) (J : Nat → Nat → Int64) (t : Bool × Bool) (x1 : Int32) (x2 : Int32) (x3 : Int32) (x4 : Int32) (x5 : Int32) (I93 : Nat → Nat → Int32) (A93 : Nat → Nat → Int32) (v93_9 : Int32) : Nat → Nat → Int32 := if (q114_X12_fits_68 n I A J t x1 x2 x3 x4 x5 I93 A93 v93_9) = (-1000000) then A93 else (qAm132_X12_fits_68 n I A J t x1 x2 x3 x4 x5 I93 A93 v93_9)
def q186_X12_fits_68 (n : Nat) (I : Nat → Nat → Int32) (A : Nat → Nat → Int32) (J : Nat → Nat → Int64) (t : Bool × Bool) (x1 : Int32) (x2 : Int32) (x3 : Int32) (x4 : Int32) (x5 : Int32) (I93 : Nat → Nat → Int32) (A93 : Nat → Nat → Int32) (v93_9 : Int32) : Int32 := v93_9 + 1
def lp_X12_fits_68_93 (n : Nat) (I : Nat → Nat → Int32) (A : Nat → Nat → Int32) (J : Nat → Nat → Int64) (t : Bool × Bool) (x1 : Int32) (x2 : Int32) (x3 : Int32) (x4 : Int32) (x5 : Int32) : Nat → (Nat → Nat → Int32) → (Nat → Nat → Int32) → (Int32) → (Nat → Nat → Int32) × (Nat → Nat → Int32) × Int32
  | 0, I93, A93, v93_9 => (I93, A93, v93_9)
  | f + 1, I93, A93, v93_9 => if 6 ≤ v93_9 then (I93, A93, v93_9) else lp_X12_fits_68_93 n I A J t x1 x2 x3 x4 x5 f (qIm121_X12_fits_68 n I A J t x1 x2 x3 x4 x5 I93 A93 v93_9) (qAm121_X12_fits_68 n I A J t x1 x2 x3 x4 x5 I93 A93 v93_9) (q186_X12_fits_68 n I A J t x1 x2 x3 x4 x5 I93 A93 v93_9)
def lb_X12_fits_68_93 (n : Nat) (I : Nat → Nat → Int32) (A : Nat → Nat → Int32) (J : Nat → Nat → Int64) (t : Bool × Bool) (x1 : Int32) (x2 : Int32) (x3 : Int32) (x4 : Int32) (x5 : Int32) : Nat → (Nat → Nat → Int32) → (Nat → Nat → Int32) → (Int32) → Prop
  | 0, _, _, _ => False
  | f + 1, I93, A93, v93_9 => (¬ 6 ≤ v93_9 → pb_X12_strengthOf_68 n I93 A93 J t x2 v93_9 (q22_X12_fits_68 n I A J t x1 x2 x3 x4 x5) x3 x4 x5 ∧ (¬ (q114_X12_fits_68 n I A J t x1 x2 x3 x4 x5 I93 A93 v93_9) = (-1000000) → vp_in (q6_X12_fits_68 n I A J t x1 x2 x3 x4 x5) 60 ∧ ((A93 114 ((q6_X12_fits_68 n I A J t x1 x2 x3 x4 x5)).toNatClampNeg) = (-1) → pb_X12_yieldsTo_68 n (pI_X12_strengthOf_68 n I93 A93 J t x2 v93_9 (q22_X12_fits_68 n I A J t x1 x2 x3 x4 x5) x3 x4 x5) A93 J t x2 v93_9 (q22_X12_fits_68 n I A J t x1 x2 x3 x4 x5) x3 x4 x5 ∧ ((px_X12_yieldsTo_68 n (pI_X12_strengthOf_68 n I93 A93 J t x2 v93_9 (q22_X12_fits_68 n I A J t x1 x2 x3 x4 x5) x3 x4 x5) A93 J t x2 v93_9 (q22_X12_fits_68 n I A J t x1 x2 x3 x4 x5) x3 x4 x5) = (-1) → vp_in (q6_X12_fits_68 n I A J t x1 x2 x3 x4 x5) 60 ∧ vp_in (q6_X12_fits_68 n I A J t x1 x2 x3 x4 x5) 60)) ∧ (¬ (A93 114 ((q6_X12_fits_68 n I A J t x1 x2 x3 x4 x5)).toNatClampNeg) = (-1) → vp_in (q6_X12_fits_68 n I A J t x1 x2 x3 x4 x5) 60 ∧ (¬ (q114_X12_fits_68 n I A J t x1 x2 x3 x4 x5 I93 A93 v93_9) ≤ (A93 115 ((q6_X12_fits_68 n I A J t x1 x2 x3 x4 x5)).toNatClampNeg) → pb_X12_yieldsTo_68 n (pI_X12_strengthOf_68 n I93 A93 J t x2 v93_9 (q22_X12_fits_68 n I A J t x1 x2 x3 x4 x5) x3 x4 x5) A93 J t x2 v93_9 (q22_X12_fits_68 n I A J t x1 x2 x3 x4 x5) x3 x4 x5 ∧ ((px_X12_yieldsTo_68 n (pI_X12_strengthOf_68 n I93 A93 J t x2 v93_9 (q22_X12_fits_68 n I A J t x1 x2 x3 x4 x5) x3 x4 x5) A93 J t x2 v93_9 (q22_X12_fits_68 n I A J t x1 x2 x3 x4 x5) x3 x4 x5) = (-1) → vp_in (q6_X12_fits_68 n I A J t x1 x2 x3 x4 x5) 60 ∧ vp_in (q6_X12_fits_68 n I A J t x1 x2 x3 x4 x5) 60)))) ∧ lb_X12_fits_68_93 n I A J t x1 x2 x3 x4 x5 f (qIm121_X12_fits_68 n I A J t x1 x2 x3 x4 x5 I93 A93 v93_9) (qAm121_X12_fits_68 n I A J t x1 x2 x3 x4 x5 I93 A93 v93_9) (q186_X12_fits_68 n I A J t x1 x2 x3 x4 x5 I93 A93 v93_9))
def qIw93_X12_fits_68 (n : Nat) (I : Nat → Nat → Int32) (A : Nat → Nat → Int32) (J : Nat → Nat → Int64) (t : Bool × Bool) (x1 : Int32) (x2 : Int32) (x3 : Int32) (x4 : Int32) (x5 : Int32) : Nat → Nat → Int32 := (lp_X12_fits_68_93 n I A J t x1 x2 x3 x4 x5 n (pI_X12_goes_68 n I (qA15_X12_fits_68 n I A J t x1 x2 x3 x4 x5) J t ((8 : Int32) + ((qA15_X12_fits_68 n I A J t x1 x2 x3 x4 x5) 92 (x2).toNatClampNeg)) (q22_X12_fits_68 n I A J t x1 x2 x3 x4 x5)) (qA15_X12_fits_68 n I A J t x1 x2 x3 x4 x5) 0).1
def qAw93_X12_fits_68 (n : Nat) (I : Nat → Nat → Int32) (A : Nat → Nat → Int32) (J : Nat → Nat → Int64) (t : Bool × Bool) (x1 : Int32) (x2 : Int32) (x3 : Int32) (x4 : Int32) (x5 : Int32) : Nat → Nat → Int32 := (lp_X12_fits_68_93 n I A J t x1 x2 x3 x4 x5 n (pI_X12_goes_68 n I (qA15_X12_fits_68 n I A J t x1 x2 x3 x4 x5) J t ((8 : Int32) + ((qA15_X12_fits_68 n I A J t x1 x2 x3 x4 x5) 92 (x2).toNatClampNeg)) (q22_X12_fits_68 n I A J t x1 x2 x3 x4 x5)) (qA15_X12_fits_68 n I A J t x1 x2 x3 x4 x5) 0).2.1
def q9w93_X12_fits_68 (n : Nat) (I : Nat → Nat → Int32) (A : Nat → Nat → Int32) (J : Nat → Nat → Int64) (t : Bool × Bool) (x1 : Int32) (x2 : Int32) (x3 : Int32) (x4 : Int32) (x5 : Int32) : Int32 := (lp_X12_fits_68_93 n I A J t x1 x2 x3 x4 x5 n (pI_X12_goes_68 n I (qA15_X12_fits_68 n I A J t x1 x2 x3 x4 x5) J t ((8 : Int32) + ((qA15_X12_fits_68 n I A J t x1 x2 x3 x4 x5) 92 (x2).toNatClampNeg)) (q22_X12_fits_68 n I A J t x1 x2 x3 x4 x5)) (qA15_X12_fits_68 n I A J t x1 x2 x3 x4 x5) 0).2.2
def qA222_X12_fits_68 (n : Nat) (I : Nat → Nat → Int32) (A : Nat → Nat → Int32) (J : Nat → Nat → Int64) (t : Bool × Bool) (x1 : Int32) (x2 : Int32) (x3 : Int32) (x4 : Int32) (x5 : Int32) : Nat → Nat → Int32 := cw_u (qAw93_X12_fits_68 n I A J t x1 x2 x3 x4 x5) 114 ((q6_X12_fits_68 n I A J t x1 x2 x3 x4 x5)).toNatClampNeg (-1)
def qAm212_X12_fits_68 (n : Nat) (I : Nat → Nat → Int32) (A : Nat → Nat → Int32) (J : Nat → Nat → Int64) (t : Bool × Bool) (x1 : Int32) (x2 : Int32) (x3 : Int32) (x4 : Int32) (x5 : Int32) : Nat → Nat → Int32 := if 10 ≤ ((qAw93_X12_fits_68 n I A J t x1 x2 x3 x4 x5) 115 ((q6_X12_fits_68 n I A J t x1 x2 x3 x4 x5)).toNatClampNeg) then (qAw93_X12_fits_68 n I A J t x1 x2 x3 x4 x5) else (qA222_X12_fits_68 n I A J t x1 x2 x3 x4 x5)
def qAm200_X12_fits_68 (n : Nat) (I : Nat → Nat → Int32) (A : Nat → Nat → Int32) (J : Nat → Nat → Int64) (t : Bool × Bool) (x1 : Int32) (x2 : Int32) (x3 : Int32) (x4 : Int32) (x5 : Int32) : Nat → Nat → Int32 := if ((qAw93_X12_fits_68 n I A J t x1 x2 x3 x4 x5) 114 ((q6_X12_fits_68 n I A J t x1 x2 x3 x4 x5)).toNatClampNeg) = (-1) then (qAw93_X12_fits_68 n I A J t x1 x2 x3 x4 x5) else (qAm212_X12_fits_68 n I A J t x1 x2 x3 x4 x5)
def qA231_X12_fits_68 (n : Nat) (I : Nat → Nat → Int32) (A : Nat → Nat → Int32) (J : Nat → Nat → Int64) (t : Bool × Bool) (x1 : Int32) (x2 : Int32) (x3 : Int32) (x4 : Int32) (x5 : Int32) : Nat → Nat → Int32 := cw_u (qAm200_X12_fits_68 n I A J t x1 x2 x3 x4 x5) 116 ((q6_X12_fits_68 n I A J t x1 x2 x3 x4 x5)).toNatClampNeg (q66_X12_fits_68 n I A J t x1 x2 x3 x4 x5)
def lp_X12_fits_68_93_2 (n : Nat) (I : Nat → Nat → Int32) (A : Nat → Nat → Int32) (J : Nat → Nat → Int64) (t : Bool × Bool) (x1 : Int32) (x2 : Int32) (x3 : Int32) (x4 : Int32) (x5 : Int32) : Nat → (Nat → Nat → Int32) → (Nat → Nat → Int32) → (Int32) → (Nat → Nat → Int32) × (Nat → Nat → Int32) × Int32
  | 0, I93, A93, v93_9 => (I93, A93, v93_9)
  | f + 1, I93, A93, v93_9 => if 6 ≤ v93_9 then (I93, A93, v93_9) else lp_X12_fits_68_93_2 n I A J t x1 x2 x3 x4 x5 f (qIm121_X12_fits_68 n I A J t x1 x2 x3 x4 x5 I93 A93 v93_9) (qAm121_X12_fits_68 n I A J t x1 x2 x3 x4 x5 I93 A93 v93_9) (q186_X12_fits_68 n I A J t x1 x2 x3 x4 x5 I93 A93 v93_9)
def lb_X12_fits_68_93_2 (n : Nat) (I : Nat → Nat → Int32) (A : Nat → Nat → Int32) (J : Nat → Nat → Int64) (t : Bool × Bool) (x1 : Int32) (x2 : Int32) (x3 : Int32) (x4 : Int32) (x5 : Int32) : Nat → (Nat → Nat → Int32) → (Nat → Nat → Int32) → (Int32) → Prop
  | 0, _, _, _ => False
  | f + 1, I93, A93, v93_9 => (¬ 6 ≤ v93_9 → pb_X12_strengthOf_68 n I93 A93 J t x2 v93_9 (q22_X12_fits_68 n I A J t x1 x2 x3 x4 x5) x3 x4 x5 ∧ (¬ (q114_X12_fits_68 n I A J t x1 x2 x3 x4 x5 I93 A93 v93_9) = (-1000000) → vp_in (q6_X12_fits_68 n I A J t x1 x2 x3 x4 x5) 60 ∧ ((A93 114 ((q6_X12_fits_68 n I A J t x1 x2 x3 x4 x5)).toNatClampNeg) = (-1) → pb_X12_yieldsTo_68 n (pI_X12_strengthOf_68 n I93 A93 J t x2 v93_9 (q22_X12_fits_68 n I A J t x1 x2 x3 x4 x5) x3 x4 x5) A93 J t x2 v93_9 (q22_X12_fits_68 n I A J t x1 x2 x3 x4 x5) x3 x4 x5 ∧ ((px_X12_yieldsTo_68 n (pI_X12_strengthOf_68 n I93 A93 J t x2 v93_9 (q22_X12_fits_68 n I A J t x1 x2 x3 x4 x5) x3 x4 x5) A93 J t x2 v93_9 (q22_X12_fits_68 n I A J t x1 x2 x3 x4 x5) x3 x4 x5) = (-1) → vp_in (q6_X12_fits_68 n I A J t x1 x2 x3 x4 x5) 60 ∧ vp_in (q6_X12_fits_68 n I A J t x1 x2 x3 x4 x5) 60)) ∧ (¬ (A93 114 ((q6_X12_fits_68 n I A J t x1 x2 x3 x4 x5)).toNatClampNeg) = (-1) → vp_in (q6_X12_fits_68 n I A J t x1 x2 x3 x4 x5) 60 ∧ (¬ (q114_X12_fits_68 n I A J t x1 x2 x3 x4 x5 I93 A93 v93_9) ≤ (A93 115 ((q6_X12_fits_68 n I A J t x1 x2 x3 x4 x5)).toNatClampNeg) → pb_X12_yieldsTo_68 n (pI_X12_strengthOf_68 n I93 A93 J t x2 v93_9 (q22_X12_fits_68 n I A J t x1 x2 x3 x4 x5) x3 x4 x5) A93 J t x2 v93_9 (q22_X12_fits_68 n I A J t x1 x2 x3 x4 x5) x3 x4 x5 ∧ ((px_X12_yieldsTo_68 n (pI_X12_strengthOf_68 n I93 A93 J t x2 v93_9 (q22_X12_fits_68 n I A J t x1 x2 x3 x4 x5) x3 x4 x5) A93 J t x2 v93_9 (q22_X12_fits_68 n I A J t x1 x2 x3 x4 x5) x3 x4 x5) = (-1) → vp_in (q6_X12_fits_68 n I A J t x1 x2 x3 x4 x5) 60 ∧ vp_in (q6_X12_fits_68 n I A J t x1 x2 x3 x4 x5) 60)))) ∧ lb_X12_fits_68_93_2 n I A J t x1 x2 x3 x4 x5 f (qIm121_X12_fits_68 n I A J t x1 x2 x3 x4 x5 I93 A93 v93_9) (qAm121_X12_fits_68 n I A J t x1 x2 x3 x4 x5 I93 A93 v93_9) (q186_X12_fits_68 n I A J t x1 x2 x3 x4 x5 I93 A93 v93_9))
def qIw93_1_X12_fits_68 (n : Nat) (I : Nat → Nat → Int32) (A : Nat → Nat → Int32) (J : Nat → Nat → Int64) (t : Bool × Bool) (x1 : Int32) (x2 : Int32) (x3 : Int32) (x4 : Int32) (x5 : Int32) : Nat → Nat → Int32 := (lp_X12_fits_68_93_2 n I A J t x1 x2 x3 x4 x5 n (pI_X12_goes_68 n I (qA15_X12_fits_68 n I A J t x1 x2 x3 x4 x5) J t ((8 : Int32) + ((qA15_X12_fits_68 n I A J t x1 x2 x3 x4 x5) 92 (x2).toNatClampNeg)) (q22_X12_fits_68 n I A J t x1 x2 x3 x4 x5)) (qA15_X12_fits_68 n I A J t x1 x2 x3 x4 x5) 0).1
def qAw93_2_X12_fits_68 (n : Nat) (I : Nat → Nat → Int32) (A : Nat → Nat → Int32) (J : Nat → Nat → Int64) (t : Bool × Bool) (x1 : Int32) (x2 : Int32) (x3 : Int32) (x4 : Int32) (x5 : Int32) : Nat → Nat → Int32 := (lp_X12_fits_68_93_2 n I A J t x1 x2 x3 x4 x5 n (pI_X12_goes_68 n I (qA15_X12_fits_68 n I A J t x1 x2 x3 x4 x5) J t ((8 : Int32) + ((qA15_X12_fits_68 n I A J t x1 x2 x3 x4 x5) 92 (x2).toNatClampNeg)) (q22_X12_fits_68 n I A J t x1 x2 x3 x4 x5)) (qA15_X12_fits_68 n I A J t x1 x2 x3 x4 x5) 0).2.1
def q9w93_3_X12_fits_68 (n : Nat) (I : Nat → Nat → Int32) (A : Nat → Nat → Int32) (J : Nat → Nat → Int64) (t : Bool × Bool) (x1 : Int32) (x2 : Int32) (x3 : Int32) (x4 : Int32) (x5 : Int32) : Int32 := (lp_X12_fits_68_93_2 n I A J t x1 x2 x3 x4 x5 n (pI_X12_goes_68 n I (qA15_X12_fits_68 n I A J t x1 x2 x3 x4 x5) J t ((8 : Int32) + ((qA15_X12_fits_68 n I A J t x1 x2 x3 x4 x5) 92 (x2).toNatClampNeg)) (q22_X12_fits_68 n I A J t x1 x2 x3 x4 x5)) (qA15_X12_fits_68 n I A J t x1 x2 x3 x4 x5) 0).2.2
def qA222_4_X12_fits_68 (n : Nat) (I : Nat → Nat → Int32) (A : Nat → Nat → Int32) (J : Nat → Nat → Int64) (t : Bool × Bool) (x1 : Int32) (x2 : Int32) (x3 : Int32) (x4 : Int32) (x5 : Int32) : Nat → Nat → Int32 := cw_u (qAw93_2_X12_fits_68 n I A J t x1 x2 x3 x4 x5) 114 ((q6_X12_fits_68 n I A J t x1 x2 x3 x4 x5)).toNatClampNeg (-1)
def qAm212_5_X12_fits_68 (n : Nat) (I : Nat → Nat → Int32) (A : Nat → Nat → Int32) (J : Nat → Nat → Int64) (t : Bool × Bool) (x1 : Int32) (x2 : Int32) (x3 : Int32) (x4 : Int32) (x5 : Int32) : Nat → Nat → Int32 := if 10 ≤ ((qAw93_2_X12_fits_68 n I A J t x1 x2 x3 x4 x5) 115 ((q6_X12_fits_68 n I A J t x1 x2 x3 x4 x5)).toNatClampNeg) then (qAw93_2_X12_fits_68 n I A J t x1 x2 x3 x4 x5) else (qA222_4_X12_fits_68 n I A J t x1 x2 x3 x4 x5)
def qAm200_6_X12_fits_68 (n : Nat) (I : Nat → Nat → Int32) (A : Nat → Nat → Int32) (J : Nat → Nat → Int64) (t : Bool × Bool) (x1 : Int32) (x2 : Int32) (x3 : Int32) (x4 : Int32) (x5 : Int32) : Nat → Nat → Int32 := if ((qAw93_2_X12_fits_68 n I A J t x1 x2 x3 x4 x5) 114 ((q6_X12_fits_68 n I A J t x1 x2 x3 x4 x5)).toNatClampNeg) = (-1) then (qAw93_2_X12_fits_68 n I A J t x1 x2 x3 x4 x5) else (qAm212_5_X12_fits_68 n I A J t x1 x2 x3 x4 x5)
def qA231_7_X12_fits_68 (n : Nat) (I : Nat → Nat → Int32) (A : Nat → Nat → Int32) (J : Nat → Nat → Int64) (t : Bool × Bool) (x1 : Int32) (x2 : Int32) (x3 : Int32) (x4 : Int32) (x5 : Int32) : Nat → Nat → Int32 := cw_u (qAm200_6_X12_fits_68 n I A J t x1 x2 x3 x4 x5) 116 ((q6_X12_fits_68 n I A J t x1 x2 x3 x4 x5)).toNatClampNeg (q66_X12_fits_68 n I A J t x1 x2 x3 x4 x5)
def pb_X12_fits_68 (n : Nat) (I : Nat → Nat → Int32) (A : Nat → Nat → Int32) (J : Nat → Nat → Int64) (t : Bool × Bool) (x1 : Int32) (x2 : Int32) (x3 : Int32) (x4 : Int32) (x5 : Int32) : Prop := vp_in (q6_X12_fits_68 n I A J t x1 x2 x3 x4 x5) 60 ∧ vp_in x1 10 ∧ vp_in x1 10 ∧ (¬ x4 < ((qA15_X12_fits_68 n I A J t x1 x2 x3 x4 x5) 95 (x1).toNatClampNeg) → vp_in x1 10 ∧ (x4 < ((qA15_X12_fits_68 n I A J t x1 x2 x3 x4 x5) 96 (x1).toNatClampNeg) → vp_in x2 6 ∧ pb_X12_goes_68 n I (qA15_X12_fits_68 n I A J t x1 x2 x3 x4 x5) J t ((8 : Int32) + ((qA15_X12_fits_68 n I A J t x1 x2 x3 x4 x5) 92 (x2).toNatClampNeg)) (q22_X12_fits_68 n I A J t x1 x2 x3 x4 x5) ∧ vp_in x2 6 ∧ (((qA15_X12_fits_68 n I A J t x1 x2 x3 x4 x5) 117 (x2).toNatClampNeg) = (-1) → lb_X12_fits_68_93 n I A J t x1 x2 x3 x4 x5 n (pI_X12_goes_68 n I (qA15_X12_fits_68 n I A J t x1 x2 x3 x4 x5) J t ((8 : Int32) + ((qA15_X12_fits_68 n I A J t x1 x2 x3 x4 x5) 92 (x2).toNatClampNeg)) (q22_X12_fits_68 n I A J t x1 x2 x3 x4 x5)) (qA15_X12_fits_68 n I A J t x1 x2 x3 x4 x5) 0 ∧ vp_in (q6_X12_fits_68 n I A J t x1 x2 x3 x4 x5) 60 ∧ (¬ ((qAw93_X12_fits_68 n I A J t x1 x2 x3 x4 x5) 114 ((q6_X12_fits_68 n I A J t x1 x2 x3 x4 x5)).toNatClampNeg) = (-1) → vp_in (q6_X12_fits_68 n I A J t x1 x2 x3 x4 x5) 60 ∧ (¬ 10 ≤ ((qAw93_X12_fits_68 n I A J t x1 x2 x3 x4 x5) 115 ((q6_X12_fits_68 n I A J t x1 x2 x3 x4 x5)).toNatClampNeg) → vp_in (q6_X12_fits_68 n I A J t x1 x2 x3 x4 x5) 60)) ∧ vp_in (q6_X12_fits_68 n I A J t x1 x2 x3 x4 x5) 60) ∧ (¬ ((qA15_X12_fits_68 n I A J t x1 x2 x3 x4 x5) 117 (x2).toNatClampNeg) = (-1) → vp_in x2 6 ∧ (((qA15_X12_fits_68 n I A J t x1 x2 x3 x4 x5) 117 (x2).toNatClampNeg) = (q66_X12_fits_68 n I A J t x1 x2 x3 x4 x5) → lb_X12_fits_68_93_2 n I A J t x1 x2 x3 x4 x5 n (pI_X12_goes_68 n I (qA15_X12_fits_68 n I A J t x1 x2 x3 x4 x5) J t ((8 : Int32) + ((qA15_X12_fits_68 n I A J t x1 x2 x3 x4 x5) 92 (x2).toNatClampNeg)) (q22_X12_fits_68 n I A J t x1 x2 x3 x4 x5)) (qA15_X12_fits_68 n I A J t x1 x2 x3 x4 x5) 0 ∧ vp_in (q6_X12_fits_68 n I A J t x1 x2 x3 x4 x5) 60 ∧ (¬ ((qAw93_2_X12_fits_68 n I A J t x1 x2 x3 x4 x5) 114 ((q6_X12_fits_68 n I A J t x1 x2 x3 x4 x5)).toNatClampNeg) = (-1) → vp_in (q6_X12_fits_68 n I A J t x1 x2 x3 x4 x5) 60 ∧ (¬ 10 ≤ ((qAw93_2_X12_fits_68 n I A J t x1 x2 x3 x4 x5) 115 ((q6_X12_fits_68 n I A J t x1 x2 x3 x4 x5)).toNatClampNeg) → vp_in (q6_X12_fits_68 n I A J t x1 x2 x3 x4 x5) 60)) ∧ vp_in (q6_X12_fits_68 n I A J t x1 x2 x3 x4 x5) 60))))
def pI_X12_fits_68 (n : Nat) (I : Nat → Nat → Int32) (A : Nat → Nat → Int32) (J : Nat → Nat → Int64) (t : Bool × Bool) (x1 : Int32) (x2 : Int32) (x3 : Int32) (x4 : Int32) (x5 : Int32) : Nat → Nat → Int32 := (if x4 < ((qA15_X12_fits_68 n I A J t x1 x2 x3 x4 x5) 95 (x1).toNatClampNeg) then I else (if x4 < ((qA15_X12_fits_68 n I A J t x1 x2 x3 x4 x5) 96 (x1).toNatClampNeg) then (if ((qA15_X12_fits_68 n I A J t x1 x2 x3 x4 x5) 117 (x2).toNatClampNeg) = (-1) then (qIw93_X12_fits_68 n I A J t x1 x2 x3 x4 x5) else (if ((qA15_X12_fits_68 n I A J t x1 x2 x3 x4 x5) 117 (x2).toNatClampNeg) = (q66_X12_fits_68 n I A J t x1 x2 x3 x4 x5) then (qIw93_1_X12_fits_68 n I A J t x1 x2 x3 x4 x5) else (pI_X12_goes_68 n I (qA15_X12_fits_68 n I A J t x1 x2 x3 x4 x5) J t ((8 : Int32) + ((qA15_X12_fits_68 n I A J t x1 x2 x3 x4 x5) 92 (x2).toNatClampNeg)) (q22_X12_fits_68 n I A J t x1 x2 x3 x4 x5)))) else I))
def pA_X12_fits_68 (n : Nat) (I : Nat → Nat → Int32) (A : Nat → Nat → Int32) (J : Nat → Nat → Int64) (t : Bool × Bool) (x1 : Int32) (x2 : Int32) (x3 : Int32) (x4 : Int32) (x5 : Int32) : Nat → Nat → Int32 := (if x4 < ((qA15_X12_fits_68 n I A J t x1 x2 x3 x4 x5) 95 (x1).toNatClampNeg) then (qA15_X12_fits_68 n I A J t x1 x2 x3 x4 x5) else (if x4 < ((qA15_X12_fits_68 n I A J t x1 x2 x3 x4 x5) 96 (x1).toNatClampNeg) then (if ((qA15_X12_fits_68 n I A J t x1 x2 x3 x4 x5) 117 (x2).toNatClampNeg) = (-1) then (qA231_X12_fits_68 n I A J t x1 x2 x3 x4 x5) else (if ((qA15_X12_fits_68 n I A J t x1 x2 x3 x4 x5) 117 (x2).toNatClampNeg) = (q66_X12_fits_68 n I A J t x1 x2 x3 x4 x5) then (qA231_7_X12_fits_68 n I A J t x1 x2 x3 x4 x5) else (qA15_X12_fits_68 n I A J t x1 x2 x3 x4 x5))) else (qA15_X12_fits_68 n I A J t x1 x2 x3 x4 x5)))
set_option maxRecDepth 100000 in
set_option maxHeartbeats 4000000 in
theorem lt_X12_fits_68_93 (g : cw_G) (n : Nat) (I : Nat → Nat → Int32) (A : Nat → Nat → Int32) (J : Nat → Nat → Int64) (t : Bool × Bool) (x1 : Int32) (x2 : Int32) (x3 : Int32) (x4 : Int32) (x5 : Int32) {Q : Option Value → cw_H → Prop} : ∀ (f : Nat) (I93 : Nat → Nat → Int32) (A93 : Nat → Nat → Int32) (v93_9 : Int32) (w0 : Nat → Nat → Int32) (w1 : Nat → Nat → Int32) (w2 : Int32), lb_X12_fits_68_93 n I A J t x1 x2 x3 x4 x5 f I93 A93 v93_9 → (lp_X12_fits_68_93 n I A J t x1 x2 x3 x4 x5 f I93 A93 v93_9).1 = w0 → (lp_X12_fits_68_93 n I A J t x1 x2 x3 x4 x5 f I93 A93 v93_9).2.1 = w1 → (lp_X12_fits_68_93 n I A J t x1 x2 x3 x4 x5 f I93 A93 v93_9).2.2 = w2 → Ev g mX12_fits 0 0 192 [some (.ref (cw_z g + 68)), some (.int x1), some (.int x2), some (.int x3), some (.int x4), some (.int x5), some (.int (q6_X12_fits_68 n I A J t x1 x2 x3 x4 x5)), some (.int (q22_X12_fits_68 n I A J t x1 x2 x3 x4 x5)), some (.int (q66_X12_fits_68 n I A J t x1 x2 x3 x4 x5)), some (.int w2), none] [] (hp g w0 w1 J t) Q → Ev g mX12_fits 0 0 93 [some (.ref (cw_z g + 68)), some (.int x1), some (.int x2), some (.int x3), some (.int x4), some (.int x5), some (.int (q6_X12_fits_68 n I A J t x1 x2 x3 x4 x5)), some (.int (q22_X12_fits_68 n I A J t x1 x2 x3 x4 x5)), some (.int (q66_X12_fits_68 n I A J t x1 x2 x3 x4 x5)), some (.int v93_9), none] [] (hp g I93 A93 J t) Q := by
  intro f
  induction f with
  | zero =>
    intro I93 A93 v93_9 w0 w1 w2 hb
    exact hb.elim
  | succ f ih =>
    intro I93 A93 v93_9 w0 w1 w2 hb h0 h1 h2 hE
    rw [lb_X12_fits_68_93] at hb
    rw [lp_X12_fits_68_93] at h0 h1 h2
    refine ev_iload (pc := 93) dX12_fits_93 rfl ?_
    refine ev_bipush (pc := 95) (v := 6) dX12_fits_95 (by decide) ?_
    have hF_97 := hb
    refine ev_icmp_ge (pc := 97) (tgt := 192) dX12_fits_97 (by decide) (fun c_97 => ?_) (fun c_97 => ?_)
    · try simp only [if_pos c_97] at h0
      try simp only [if_pos c_97] at h1
      try simp only [if_pos c_97] at h2
      subst h0
      subst h1
      subst h2
      exact ev_loc hE cw_le0
    · have hb := hF_97 c_97
      try simp only [if_neg c_97] at h0
      try simp only [if_neg c_97] at h1
      try simp only [if_neg c_97] at h2
      refine ev_aload_n (pc := 100) dX12_fits_100 rfl ?_
      refine ev_iload_n (pc := 101) dX12_fits_101 rfl ?_
      refine ev_iload (pc := 102) dX12_fits_102 rfl ?_
      refine ev_iload (pc := 104) dX12_fits_104 rfl ?_
      refine ev_iload_n (pc := 106) dX12_fits_106 rfl ?_
      refine ev_iload (pc := 107) dX12_fits_107 rfl ?_
      refine ev_iload (pc := 109) dX12_fits_109 rfl ?_
      refine ev_Vi (pc := 111) dX12_fits_111 lk_X12_348 cd_X12_strengthOf ar_X12_strengthOf ⟨by decide, rfl, rfl⟩ (cv_X12_strengthOf_68 g n I93 A93 J t x2 v93_9 (q22_X12_fits_68 n I A J t x1 x2 x3 x4 x5) x3 x4 x5 hb.1) (show 68 < 120 by decide) rfl rfl rfl rfl (Nat.le_of_ble_eq_true rfl) ⟨by decide, by decide⟩ ?_
      replace hb := hb.2
      refine ev_is (y := (q114_X12_fits_68 n I A J t x1 x2 x3 x4 x5 I93 A93 v93_9)) rfl ?_
      refine ev_istore_10 (pc := 114) dX12_fits_114 (by decide) rfl ?_
      refine ev_iload (pc := 116) dX12_fits_116 rfl ?_
      refine ev_ldcw (pc := 118) dX12_fits_118 ks_X12_332 ?_
      obtain ⟨hF_121, hb⟩ := hb
      refine ev_cut (pj := 186) (Lj := [some (.ref (cw_z g + 68)), some (.int x1), some (.int x2), some (.int x3), some (.int x4), some (.int x5), some (.int (q6_X12_fits_68 n I A J t x1 x2 x3 x4 x5)), some (.int (q22_X12_fits_68 n I A J t x1 x2 x3 x4 x5)), some (.int (q66_X12_fits_68 n I A J t x1 x2 x3 x4 x5)), some (.int v93_9), some (.int (q114_X12_fits_68 n I A J t x1 x2 x3 x4 x5 I93 A93 v93_9))]) (stj := []) (σj := hp g (qIm121_X12_fits_68 n I A J t x1 x2 x3 x4 x5 I93 A93 v93_9) (qAm121_X12_fits_68 n I A J t x1 x2 x3 x4 x5 I93 A93 v93_9) J t) ?_ (fun hJ_121 => ?_)
      rotate_left
      · refine ev_icmp_eq (pc := 121) (tgt := 186) dX12_fits_121 (by decide) (fun c_121 => ?_) (fun c_121 => ?_)
        · simp only [qIm121_X12_fits_68, qAm121_X12_fits_68, if_pos c_121] at hJ_121
          exact ev_loc hJ_121 cw_le0
        · have hb := hF_121 c_121
          refine ev_aload_n (pc := 124) dX12_fits_124 rfl ?_
          refine tv_getr (pc := 125) (d := 114) dX12_fits_125 fl_X12_155 (by decide) rfl rfl ?_
          refine ev_iload (pc := 128) dX12_fits_128 rfl ?_
          refine ev_iald (pc := 130) dX12_fits_130 (by decide) rfl hb.1 ?_
          replace hb := hb.2
          refine ev_iconst (pc := 131) (v := (-1)) dX12_fits_131 (by decide) ?_
          obtain ⟨hT_132, hF_132⟩ := hb
          refine ev_cut (pj := 186) (Lj := [some (.ref (cw_z g + 68)), some (.int x1), some (.int x2), some (.int x3), some (.int x4), some (.int x5), some (.int (q6_X12_fits_68 n I A J t x1 x2 x3 x4 x5)), some (.int (q22_X12_fits_68 n I A J t x1 x2 x3 x4 x5)), some (.int (q66_X12_fits_68 n I A J t x1 x2 x3 x4 x5)), some (.int v93_9), some (.int (q114_X12_fits_68 n I A J t x1 x2 x3 x4 x5 I93 A93 v93_9))]) (stj := []) (σj := hp g (qIm132_X12_fits_68 n I A J t x1 x2 x3 x4 x5 I93 A93 v93_9) (qAm132_X12_fits_68 n I A J t x1 x2 x3 x4 x5 I93 A93 v93_9) J t) ?_ (fun hJ_132 => ?_)
          rotate_left
          · refine ev_icmp_eq (pc := 132) (tgt := 147) dX12_fits_132 (by decide) (fun c_132 => ?_) (fun c_132 => ?_)
            · have hb := hT_132 c_132
              refine ev_aload_n (pc := 147) dX12_fits_147 rfl ?_
              refine ev_iload_n (pc := 148) dX12_fits_148 rfl ?_
              refine ev_iload (pc := 149) dX12_fits_149 rfl ?_
              refine ev_iload (pc := 151) dX12_fits_151 rfl ?_
              refine ev_iload_n (pc := 153) dX12_fits_153 rfl ?_
              refine ev_iload (pc := 154) dX12_fits_154 rfl ?_
              refine ev_iload (pc := 156) dX12_fits_156 rfl ?_
              refine ev_Vi (pc := 158) dX12_fits_158 lk_X12_365 cd_X12_yieldsTo ar_X12_yieldsTo ⟨by decide, rfl, rfl⟩ (cv_X12_yieldsTo_68 g n (pI_X12_strengthOf_68 n I93 A93 J t x2 v93_9 (q22_X12_fits_68 n I A J t x1 x2 x3 x4 x5) x3 x4 x5) A93 J t x2 v93_9 (q22_X12_fits_68 n I A J t x1 x2 x3 x4 x5) x3 x4 x5 hb.1) (show 68 < 120 by decide) rfl rfl rfl rfl (Nat.le_of_ble_eq_true rfl) ⟨by decide, by decide⟩ ?_
              replace hb := hb.2
              refine ev_iconst (pc := 161) (v := (-1)) dX12_fits_161 (by decide) ?_
              have hT_162 := hb
              refine ev_cut (pj := 186) (Lj := [some (.ref (cw_z g + 68)), some (.int x1), some (.int x2), some (.int x3), some (.int x4), some (.int x5), some (.int (q6_X12_fits_68 n I A J t x1 x2 x3 x4 x5)), some (.int (q22_X12_fits_68 n I A J t x1 x2 x3 x4 x5)), some (.int (q66_X12_fits_68 n I A J t x1 x2 x3 x4 x5)), some (.int v93_9), some (.int (q114_X12_fits_68 n I A J t x1 x2 x3 x4 x5 I93 A93 v93_9))]) (stj := []) (σj := hp g (pI_X12_yieldsTo_68 n (pI_X12_strengthOf_68 n I93 A93 J t x2 v93_9 (q22_X12_fits_68 n I A J t x1 x2 x3 x4 x5) x3 x4 x5) A93 J t x2 v93_9 (q22_X12_fits_68 n I A J t x1 x2 x3 x4 x5) x3 x4 x5) (qAm162_X12_fits_68 n I A J t x1 x2 x3 x4 x5 I93 A93 v93_9) J t) ?_ (fun hJ_162 => ?_)
              rotate_left
              · refine ev_icmp_eq (pc := 162) (tgt := 168) dX12_fits_162 (by decide) (fun c_162 => ?_) (fun c_162 => ?_)
                · have hb := hT_162 c_162
                  refine ev_aload_n (pc := 168) dX12_fits_168 rfl ?_
                  refine tv_getr (pc := 169) (d := 114) dX12_fits_169 fl_X12_155 (by decide) rfl rfl ?_
                  refine ev_iload (pc := 172) dX12_fits_172 rfl ?_
                  refine ev_iload (pc := 174) dX12_fits_174 rfl ?_
                  refine tw_iast (pc := 176) (A2 := (qA176_X12_fits_68 n I A J t x1 x2 x3 x4 x5 I93 A93 v93_9)) dX12_fits_176 (by decide) rfl hb.1 rfl ?_
                  replace hb := hb.2
                  refine ev_aload_n (pc := 177) dX12_fits_177 rfl ?_
                  refine tv_getr (pc := 178) (d := 115) dX12_fits_178 fl_X12_158 (by decide) rfl rfl ?_
                  refine ev_iload (pc := 181) dX12_fits_181 rfl ?_
                  refine ev_iload (pc := 183) dX12_fits_183 rfl ?_
                  refine tw_iast (pc := 185) (A2 := (qA185_X12_fits_68 n I A J t x1 x2 x3 x4 x5 I93 A93 v93_9)) dX12_fits_185 (by decide) rfl hb rfl ?_
                  simp only [qAm162_X12_fits_68, if_pos c_162] at hJ_162
                  exact ev_loc hJ_162 cw_le0
                · refine ev_goto (pc := 165) (tgt := 186) dX12_fits_165 (by decide) ?_
                  simp only [qAm162_X12_fits_68, if_neg c_162] at hJ_162
                  exact ev_loc hJ_162 cw_le0
              simp only [qIm132_X12_fits_68, qAm132_X12_fits_68, if_pos c_132] at hJ_132
              exact ev_loc hJ_132 cw_le0
            · have hb := hF_132 c_132
              refine ev_iload (pc := 135) dX12_fits_135 rfl ?_
              refine ev_aload_n (pc := 137) dX12_fits_137 rfl ?_
              refine tv_getr (pc := 138) (d := 115) dX12_fits_138 fl_X12_158 (by decide) rfl rfl ?_
              refine ev_iload (pc := 141) dX12_fits_141 rfl ?_
              refine ev_iald (pc := 143) dX12_fits_143 (by decide) rfl hb.1 ?_
              replace hb := hb.2
              have hF_144 := hb
              refine ev_cut (pj := 186) (Lj := [some (.ref (cw_z g + 68)), some (.int x1), some (.int x2), some (.int x3), some (.int x4), some (.int x5), some (.int (q6_X12_fits_68 n I A J t x1 x2 x3 x4 x5)), some (.int (q22_X12_fits_68 n I A J t x1 x2 x3 x4 x5)), some (.int (q66_X12_fits_68 n I A J t x1 x2 x3 x4 x5)), some (.int v93_9), some (.int (q114_X12_fits_68 n I A J t x1 x2 x3 x4 x5 I93 A93 v93_9))]) (stj := []) (σj := hp g (qIm144_X12_fits_68 n I A J t x1 x2 x3 x4 x5 I93 A93 v93_9) (qAm144_X12_fits_68 n I A J t x1 x2 x3 x4 x5 I93 A93 v93_9) J t) ?_ (fun hJ_144 => ?_)
              rotate_left
              · refine ev_icmp_le (pc := 144) (tgt := 186) dX12_fits_144 (by decide) (fun c_144 => ?_) (fun c_144 => ?_)
                · simp only [qIm144_X12_fits_68, qAm144_X12_fits_68, if_pos c_144] at hJ_144
                  exact ev_loc hJ_144 cw_le0
                · have hb := hF_144 c_144
                  refine ev_aload_n (pc := 147) dX12_fits_147 rfl ?_
                  refine ev_iload_n (pc := 148) dX12_fits_148 rfl ?_
                  refine ev_iload (pc := 149) dX12_fits_149 rfl ?_
                  refine ev_iload (pc := 151) dX12_fits_151 rfl ?_
                  refine ev_iload_n (pc := 153) dX12_fits_153 rfl ?_
                  refine ev_iload (pc := 154) dX12_fits_154 rfl ?_
                  refine ev_iload (pc := 156) dX12_fits_156 rfl ?_
                  refine ev_Vi (pc := 158) dX12_fits_158 lk_X12_365 cd_X12_yieldsTo ar_X12_yieldsTo ⟨by decide, rfl, rfl⟩ (cv_X12_yieldsTo_68 g n (pI_X12_strengthOf_68 n I93 A93 J t x2 v93_9 (q22_X12_fits_68 n I A J t x1 x2 x3 x4 x5) x3 x4 x5) A93 J t x2 v93_9 (q22_X12_fits_68 n I A J t x1 x2 x3 x4 x5) x3 x4 x5 hb.1) (show 68 < 120 by decide) rfl rfl rfl rfl (Nat.le_of_ble_eq_true rfl) ⟨by decide, by decide⟩ ?_
                  replace hb := hb.2
                  refine ev_iconst (pc := 161) (v := (-1)) dX12_fits_161 (by decide) ?_
                  have hT_162 := hb
                  refine ev_cut (pj := 186) (Lj := [some (.ref (cw_z g + 68)), some (.int x1), some (.int x2), some (.int x3), some (.int x4), some (.int x5), some (.int (q6_X12_fits_68 n I A J t x1 x2 x3 x4 x5)), some (.int (q22_X12_fits_68 n I A J t x1 x2 x3 x4 x5)), some (.int (q66_X12_fits_68 n I A J t x1 x2 x3 x4 x5)), some (.int v93_9), some (.int (q114_X12_fits_68 n I A J t x1 x2 x3 x4 x5 I93 A93 v93_9))]) (stj := []) (σj := hp g (pI_X12_yieldsTo_68 n (pI_X12_strengthOf_68 n I93 A93 J t x2 v93_9 (q22_X12_fits_68 n I A J t x1 x2 x3 x4 x5) x3 x4 x5) A93 J t x2 v93_9 (q22_X12_fits_68 n I A J t x1 x2 x3 x4 x5) x3 x4 x5) (qAm162_X12_fits_68 n I A J t x1 x2 x3 x4 x5 I93 A93 v93_9) J t) ?_ (fun hJ_162 => ?_)
                  rotate_left
                  · refine ev_icmp_eq (pc := 162) (tgt := 168) dX12_fits_162 (by decide) (fun c_162 => ?_) (fun c_162 => ?_)
                    · have hb := hT_162 c_162
                      refine ev_aload_n (pc := 168) dX12_fits_168 rfl ?_
                      refine tv_getr (pc := 169) (d := 114) dX12_fits_169 fl_X12_155 (by decide) rfl rfl ?_
                      refine ev_iload (pc := 172) dX12_fits_172 rfl ?_
                      refine ev_iload (pc := 174) dX12_fits_174 rfl ?_
                      refine tw_iast (pc := 176) (A2 := (qA176_X12_fits_68 n I A J t x1 x2 x3 x4 x5 I93 A93 v93_9)) dX12_fits_176 (by decide) rfl hb.1 rfl ?_
                      replace hb := hb.2
                      refine ev_aload_n (pc := 177) dX12_fits_177 rfl ?_
                      refine tv_getr (pc := 178) (d := 115) dX12_fits_178 fl_X12_158 (by decide) rfl rfl ?_
                      refine ev_iload (pc := 181) dX12_fits_181 rfl ?_
                      refine ev_iload (pc := 183) dX12_fits_183 rfl ?_
                      refine tw_iast (pc := 185) (A2 := (qA185_X12_fits_68 n I A J t x1 x2 x3 x4 x5 I93 A93 v93_9)) dX12_fits_185 (by decide) rfl hb rfl ?_
                      simp only [qAm162_X12_fits_68, if_pos c_162] at hJ_162
                      exact ev_loc hJ_162 cw_le0
                    · refine ev_goto (pc := 165) (tgt := 186) dX12_fits_165 (by decide) ?_
                      simp only [qAm162_X12_fits_68, if_neg c_162] at hJ_162
                      exact ev_loc hJ_162 cw_le0
                  simp only [qIm144_X12_fits_68, qAm144_X12_fits_68, if_neg c_144] at hJ_144
                  exact ev_loc hJ_144 cw_le0
              simp only [qIm132_X12_fits_68, qAm132_X12_fits_68, if_neg c_132] at hJ_132
              exact ev_loc hJ_132 cw_le0
          simp only [qIm121_X12_fits_68, qAm121_X12_fits_68, if_neg c_121] at hJ_121
          exact ev_loc hJ_121 cw_le0
      refine ev_iinc_9 (pc := 186) (v := (q186_X12_fits_68 n I A J t x1 x2 x3 x4 x5 I93 A93 v93_9)) dX12_fits_186 (by decide) rfl rfl ?_
      refine ev_goto (pc := 189) (tgt := 93) dX12_fits_189 (by decide) ?_
      exact ev_loc (ih (qIm121_X12_fits_68 n I A J t x1 x2 x3 x4 x5 I93 A93 v93_9) (qAm121_X12_fits_68 n I A J t x1 x2 x3 x4 x5 I93 A93 v93_9) (q186_X12_fits_68 n I A J t x1 x2 x3 x4 x5 I93 A93 v93_9) w0 w1 w2 hb h0 h1 h2 hE) (cw_leS (cw_leS (cw_leS (cw_leS (cw_leS (cw_leS (cw_leS (cw_leS (cw_leS (cw_leS (cw_leN cw_le0)))))))))))

set_option maxRecDepth 100000 in
set_option maxHeartbeats 4000000 in
theorem lt_X12_fits_68_93_2 (g : cw_G) (n : Nat) (I : Nat → Nat → Int32) (A : Nat → Nat → Int32) (J : Nat → Nat → Int64) (t : Bool × Bool) (x1 : Int32) (x2 : Int32) (x3 : Int32) (x4 : Int32) (x5 : Int32) {Q : Option Value → cw_H → Prop} : ∀ (f : Nat) (I93 : Nat → Nat → Int32) (A93 : Nat → Nat → Int32) (v93_9 : Int32) (w0 : Nat → Nat → Int32) (w1 : Nat → Nat → Int32) (w2 : Int32), lb_X12_fits_68_93_2 n I A J t x1 x2 x3 x4 x5 f I93 A93 v93_9 → (lp_X12_fits_68_93_2 n I A J t x1 x2 x3 x4 x5 f I93 A93 v93_9).1 = w0 → (lp_X12_fits_68_93_2 n I A J t x1 x2 x3 x4 x5 f I93 A93 v93_9).2.1 = w1 → (lp_X12_fits_68_93_2 n I A J t x1 x2 x3 x4 x5 f I93 A93 v93_9).2.2 = w2 → Ev g mX12_fits 0 0 192 [some (.ref (cw_z g + 68)), some (.int x1), some (.int x2), some (.int x3), some (.int x4), some (.int x5), some (.int (q6_X12_fits_68 n I A J t x1 x2 x3 x4 x5)), some (.int (q22_X12_fits_68 n I A J t x1 x2 x3 x4 x5)), some (.int (q66_X12_fits_68 n I A J t x1 x2 x3 x4 x5)), some (.int w2), none] [] (hp g w0 w1 J t) Q → Ev g mX12_fits 0 0 93 [some (.ref (cw_z g + 68)), some (.int x1), some (.int x2), some (.int x3), some (.int x4), some (.int x5), some (.int (q6_X12_fits_68 n I A J t x1 x2 x3 x4 x5)), some (.int (q22_X12_fits_68 n I A J t x1 x2 x3 x4 x5)), some (.int (q66_X12_fits_68 n I A J t x1 x2 x3 x4 x5)), some (.int v93_9), none] [] (hp g I93 A93 J t) Q := by
  intro f
  induction f with
  | zero =>
    intro I93 A93 v93_9 w0 w1 w2 hb
    exact hb.elim
  | succ f ih =>
    intro I93 A93 v93_9 w0 w1 w2 hb h0 h1 h2 hE
    rw [lb_X12_fits_68_93_2] at hb
    rw [lp_X12_fits_68_93_2] at h0 h1 h2
    refine ev_iload (pc := 93) dX12_fits_93 rfl ?_
    refine ev_bipush (pc := 95) (v := 6) dX12_fits_95 (by decide) ?_
    have hF_97 := hb
    refine ev_icmp_ge (pc := 97) (tgt := 192) dX12_fits_97 (by decide) (fun c_97 => ?_) (fun c_97 => ?_)
    · try simp only [if_pos c_97] at h0
      try simp only [if_pos c_97] at h1
      try simp only [if_pos c_97] at h2
      subst h0
      subst h1
      subst h2
      exact ev_loc hE cw_le0
    · have hb := hF_97 c_97
      try simp only [if_neg c_97] at h0
      try simp only [if_neg c_97] at h1
      try simp only [if_neg c_97] at h2
      refine ev_aload_n (pc := 100) dX12_fits_100 rfl ?_
      refine ev_iload_n (pc := 101) dX12_fits_101 rfl ?_
      refine ev_iload (pc := 102) dX12_fits_102 rfl ?_
      refine ev_iload (pc := 104) dX12_fits_104 rfl ?_
      refine ev_iload_n (pc := 106) dX12_fits_106 rfl ?_
      refine ev_iload (pc := 107) dX12_fits_107 rfl ?_
      refine ev_iload (pc := 109) dX12_fits_109 rfl ?_
      refine ev_Vi (pc := 111) dX12_fits_111 lk_X12_348 cd_X12_strengthOf ar_X12_strengthOf ⟨by decide, rfl, rfl⟩ (cv_X12_strengthOf_68 g n I93 A93 J t x2 v93_9 (q22_X12_fits_68 n I A J t x1 x2 x3 x4 x5) x3 x4 x5 hb.1) (show 68 < 120 by decide) rfl rfl rfl rfl (Nat.le_of_ble_eq_true rfl) ⟨by decide, by decide⟩ ?_
      replace hb := hb.2
      refine ev_is (y := (q114_X12_fits_68 n I A J t x1 x2 x3 x4 x5 I93 A93 v93_9)) rfl ?_
      refine ev_istore_10 (pc := 114) dX12_fits_114 (by decide) rfl ?_
      refine ev_iload (pc := 116) dX12_fits_116 rfl ?_
      refine ev_ldcw (pc := 118) dX12_fits_118 ks_X12_332 ?_
      obtain ⟨hF_121, hb⟩ := hb
      refine ev_cut (pj := 186) (Lj := [some (.ref (cw_z g + 68)), some (.int x1), some (.int x2), some (.int x3), some (.int x4), some (.int x5), some (.int (q6_X12_fits_68 n I A J t x1 x2 x3 x4 x5)), some (.int (q22_X12_fits_68 n I A J t x1 x2 x3 x4 x5)), some (.int (q66_X12_fits_68 n I A J t x1 x2 x3 x4 x5)), some (.int v93_9), some (.int (q114_X12_fits_68 n I A J t x1 x2 x3 x4 x5 I93 A93 v93_9))]) (stj := []) (σj := hp g (qIm121_X12_fits_68 n I A J t x1 x2 x3 x4 x5 I93 A93 v93_9) (qAm121_X12_fits_68 n I A J t x1 x2 x3 x4 x5 I93 A93 v93_9) J t) ?_ (fun hJ_121 => ?_)
      rotate_left
      · refine ev_icmp_eq (pc := 121) (tgt := 186) dX12_fits_121 (by decide) (fun c_121 => ?_) (fun c_121 => ?_)
        · simp only [qIm121_X12_fits_68, qAm121_X12_fits_68, if_pos c_121] at hJ_121
          exact ev_loc hJ_121 cw_le0
        · have hb := hF_121 c_121
          refine ev_aload_n (pc := 124) dX12_fits_124 rfl ?_
          refine tv_getr (pc := 125) (d := 114) dX12_fits_125 fl_X12_155 (by decide) rfl rfl ?_
          refine ev_iload (pc := 128) dX12_fits_128 rfl ?_
          refine ev_iald (pc := 130) dX12_fits_130 (by decide) rfl hb.1 ?_
          replace hb := hb.2
          refine ev_iconst (pc := 131) (v := (-1)) dX12_fits_131 (by decide) ?_
          obtain ⟨hT_132, hF_132⟩ := hb
          refine ev_cut (pj := 186) (Lj := [some (.ref (cw_z g + 68)), some (.int x1), some (.int x2), some (.int x3), some (.int x4), some (.int x5), some (.int (q6_X12_fits_68 n I A J t x1 x2 x3 x4 x5)), some (.int (q22_X12_fits_68 n I A J t x1 x2 x3 x4 x5)), some (.int (q66_X12_fits_68 n I A J t x1 x2 x3 x4 x5)), some (.int v93_9), some (.int (q114_X12_fits_68 n I A J t x1 x2 x3 x4 x5 I93 A93 v93_9))]) (stj := []) (σj := hp g (qIm132_X12_fits_68 n I A J t x1 x2 x3 x4 x5 I93 A93 v93_9) (qAm132_X12_fits_68 n I A J t x1 x2 x3 x4 x5 I93 A93 v93_9) J t) ?_ (fun hJ_132 => ?_)
          rotate_left
          · refine ev_icmp_eq (pc := 132) (tgt := 147) dX12_fits_132 (by decide) (fun c_132 => ?_) (fun c_132 => ?_)
            · have hb := hT_132 c_132
              refine ev_aload_n (pc := 147) dX12_fits_147 rfl ?_
              refine ev_iload_n (pc := 148) dX12_fits_148 rfl ?_
              refine ev_iload (pc := 149) dX12_fits_149 rfl ?_
              refine ev_iload (pc := 151) dX12_fits_151 rfl ?_
              refine ev_iload_n (pc := 153) dX12_fits_153 rfl ?_
              refine ev_iload (pc := 154) dX12_fits_154 rfl ?_
              refine ev_iload (pc := 156) dX12_fits_156 rfl ?_
              refine ev_Vi (pc := 158) dX12_fits_158 lk_X12_365 cd_X12_yieldsTo ar_X12_yieldsTo ⟨by decide, rfl, rfl⟩ (cv_X12_yieldsTo_68 g n (pI_X12_strengthOf_68 n I93 A93 J t x2 v93_9 (q22_X12_fits_68 n I A J t x1 x2 x3 x4 x5) x3 x4 x5) A93 J t x2 v93_9 (q22_X12_fits_68 n I A J t x1 x2 x3 x4 x5) x3 x4 x5 hb.1) (show 68 < 120 by decide) rfl rfl rfl rfl (Nat.le_of_ble_eq_true rfl) ⟨by decide, by decide⟩ ?_
              replace hb := hb.2
              refine ev_iconst (pc := 161) (v := (-1)) dX12_fits_161 (by decide) ?_
              have hT_162 := hb
              refine ev_cut (pj := 186) (Lj := [some (.ref (cw_z g + 68)), some (.int x1), some (.int x2), some (.int x3), some (.int x4), some (.int x5), some (.int (q6_X12_fits_68 n I A J t x1 x2 x3 x4 x5)), some (.int (q22_X12_fits_68 n I A J t x1 x2 x3 x4 x5)), some (.int (q66_X12_fits_68 n I A J t x1 x2 x3 x4 x5)), some (.int v93_9), some (.int (q114_X12_fits_68 n I A J t x1 x2 x3 x4 x5 I93 A93 v93_9))]) (stj := []) (σj := hp g (pI_X12_yieldsTo_68 n (pI_X12_strengthOf_68 n I93 A93 J t x2 v93_9 (q22_X12_fits_68 n I A J t x1 x2 x3 x4 x5) x3 x4 x5) A93 J t x2 v93_9 (q22_X12_fits_68 n I A J t x1 x2 x3 x4 x5) x3 x4 x5) (qAm162_X12_fits_68 n I A J t x1 x2 x3 x4 x5 I93 A93 v93_9) J t) ?_ (fun hJ_162 => ?_)
              rotate_left
              · refine ev_icmp_eq (pc := 162) (tgt := 168) dX12_fits_162 (by decide) (fun c_162 => ?_) (fun c_162 => ?_)
                · have hb := hT_162 c_162
                  refine ev_aload_n (pc := 168) dX12_fits_168 rfl ?_
                  refine tv_getr (pc := 169) (d := 114) dX12_fits_169 fl_X12_155 (by decide) rfl rfl ?_
                  refine ev_iload (pc := 172) dX12_fits_172 rfl ?_
                  refine ev_iload (pc := 174) dX12_fits_174 rfl ?_
                  refine tw_iast (pc := 176) (A2 := (qA176_X12_fits_68 n I A J t x1 x2 x3 x4 x5 I93 A93 v93_9)) dX12_fits_176 (by decide) rfl hb.1 rfl ?_
                  replace hb := hb.2
                  refine ev_aload_n (pc := 177) dX12_fits_177 rfl ?_
                  refine tv_getr (pc := 178) (d := 115) dX12_fits_178 fl_X12_158 (by decide) rfl rfl ?_
                  refine ev_iload (pc := 181) dX12_fits_181 rfl ?_
                  refine ev_iload (pc := 183) dX12_fits_183 rfl ?_
                  refine tw_iast (pc := 185) (A2 := (qA185_X12_fits_68 n I A J t x1 x2 x3 x4 x5 I93 A93 v93_9)) dX12_fits_185 (by decide) rfl hb rfl ?_
                  simp only [qAm162_X12_fits_68, if_pos c_162] at hJ_162
                  exact ev_loc hJ_162 cw_le0
                · refine ev_goto (pc := 165) (tgt := 186) dX12_fits_165 (by decide) ?_
                  simp only [qAm162_X12_fits_68, if_neg c_162] at hJ_162
                  exact ev_loc hJ_162 cw_le0
              simp only [qIm132_X12_fits_68, qAm132_X12_fits_68, if_pos c_132] at hJ_132
              exact ev_loc hJ_132 cw_le0
            · have hb := hF_132 c_132
              refine ev_iload (pc := 135) dX12_fits_135 rfl ?_
              refine ev_aload_n (pc := 137) dX12_fits_137 rfl ?_
              refine tv_getr (pc := 138) (d := 115) dX12_fits_138 fl_X12_158 (by decide) rfl rfl ?_
              refine ev_iload (pc := 141) dX12_fits_141 rfl ?_
              refine ev_iald (pc := 143) dX12_fits_143 (by decide) rfl hb.1 ?_
              replace hb := hb.2
              have hF_144 := hb
              refine ev_cut (pj := 186) (Lj := [some (.ref (cw_z g + 68)), some (.int x1), some (.int x2), some (.int x3), some (.int x4), some (.int x5), some (.int (q6_X12_fits_68 n I A J t x1 x2 x3 x4 x5)), some (.int (q22_X12_fits_68 n I A J t x1 x2 x3 x4 x5)), some (.int (q66_X12_fits_68 n I A J t x1 x2 x3 x4 x5)), some (.int v93_9), some (.int (q114_X12_fits_68 n I A J t x1 x2 x3 x4 x5 I93 A93 v93_9))]) (stj := []) (σj := hp g (qIm144_X12_fits_68 n I A J t x1 x2 x3 x4 x5 I93 A93 v93_9) (qAm144_X12_fits_68 n I A J t x1 x2 x3 x4 x5 I93 A93 v93_9) J t) ?_ (fun hJ_144 => ?_)
              rotate_left
              · refine ev_icmp_le (pc := 144) (tgt := 186) dX12_fits_144 (by decide) (fun c_144 => ?_) (fun c_144 => ?_)
                · simp only [qIm144_X12_fits_68, qAm144_X12_fits_68, if_pos c_144] at hJ_144
                  exact ev_loc hJ_144 cw_le0
                · have hb := hF_144 c_144
                  refine ev_aload_n (pc := 147) dX12_fits_147 rfl ?_
                  refine ev_iload_n (pc := 148) dX12_fits_148 rfl ?_
                  refine ev_iload (pc := 149) dX12_fits_149 rfl ?_
                  refine ev_iload (pc := 151) dX12_fits_151 rfl ?_
                  refine ev_iload_n (pc := 153) dX12_fits_153 rfl ?_
                  refine ev_iload (pc := 154) dX12_fits_154 rfl ?_
                  refine ev_iload (pc := 156) dX12_fits_156 rfl ?_
                  refine ev_Vi (pc := 158) dX12_fits_158 lk_X12_365 cd_X12_yieldsTo ar_X12_yieldsTo ⟨by decide, rfl, rfl⟩ (cv_X12_yieldsTo_68 g n (pI_X12_strengthOf_68 n I93 A93 J t x2 v93_9 (q22_X12_fits_68 n I A J t x1 x2 x3 x4 x5) x3 x4 x5) A93 J t x2 v93_9 (q22_X12_fits_68 n I A J t x1 x2 x3 x4 x5) x3 x4 x5 hb.1) (show 68 < 120 by decide) rfl rfl rfl rfl (Nat.le_of_ble_eq_true rfl) ⟨by decide, by decide⟩ ?_
                  replace hb := hb.2
                  refine ev_iconst (pc := 161) (v := (-1)) dX12_fits_161 (by decide) ?_
                  have hT_162 := hb
                  refine ev_cut (pj := 186) (Lj := [some (.ref (cw_z g + 68)), some (.int x1), some (.int x2), some (.int x3), some (.int x4), some (.int x5), some (.int (q6_X12_fits_68 n I A J t x1 x2 x3 x4 x5)), some (.int (q22_X12_fits_68 n I A J t x1 x2 x3 x4 x5)), some (.int (q66_X12_fits_68 n I A J t x1 x2 x3 x4 x5)), some (.int v93_9), some (.int (q114_X12_fits_68 n I A J t x1 x2 x3 x4 x5 I93 A93 v93_9))]) (stj := []) (σj := hp g (pI_X12_yieldsTo_68 n (pI_X12_strengthOf_68 n I93 A93 J t x2 v93_9 (q22_X12_fits_68 n I A J t x1 x2 x3 x4 x5) x3 x4 x5) A93 J t x2 v93_9 (q22_X12_fits_68 n I A J t x1 x2 x3 x4 x5) x3 x4 x5) (qAm162_X12_fits_68 n I A J t x1 x2 x3 x4 x5 I93 A93 v93_9) J t) ?_ (fun hJ_162 => ?_)
                  rotate_left
                  · refine ev_icmp_eq (pc := 162) (tgt := 168) dX12_fits_162 (by decide) (fun c_162 => ?_) (fun c_162 => ?_)
                    · have hb := hT_162 c_162
                      refine ev_aload_n (pc := 168) dX12_fits_168 rfl ?_
                      refine tv_getr (pc := 169) (d := 114) dX12_fits_169 fl_X12_155 (by decide) rfl rfl ?_
                      refine ev_iload (pc := 172) dX12_fits_172 rfl ?_
                      refine ev_iload (pc := 174) dX12_fits_174 rfl ?_
                      refine tw_iast (pc := 176) (A2 := (qA176_X12_fits_68 n I A J t x1 x2 x3 x4 x5 I93 A93 v93_9)) dX12_fits_176 (by decide) rfl hb.1 rfl ?_
                      replace hb := hb.2
                      refine ev_aload_n (pc := 177) dX12_fits_177 rfl ?_
                      refine tv_getr (pc := 178) (d := 115) dX12_fits_178 fl_X12_158 (by decide) rfl rfl ?_
                      refine ev_iload (pc := 181) dX12_fits_181 rfl ?_
                      refine ev_iload (pc := 183) dX12_fits_183 rfl ?_
                      refine tw_iast (pc := 185) (A2 := (qA185_X12_fits_68 n I A J t x1 x2 x3 x4 x5 I93 A93 v93_9)) dX12_fits_185 (by decide) rfl hb rfl ?_
                      simp only [qAm162_X12_fits_68, if_pos c_162] at hJ_162
                      exact ev_loc hJ_162 cw_le0
                    · refine ev_goto (pc := 165) (tgt := 186) dX12_fits_165 (by decide) ?_
                      simp only [qAm162_X12_fits_68, if_neg c_162] at hJ_162
                      exact ev_loc hJ_162 cw_le0
                  simp only [qIm144_X12_fits_68, qAm144_X12_fits_68, if_neg c_144] at hJ_144
                  exact ev_loc hJ_144 cw_le0
              simp only [qIm132_X12_fits_68, qAm132_X12_fits_68, if_neg c_132] at hJ_132
              exact ev_loc hJ_132 cw_le0
          simp only [qIm121_X12_fits_68, qAm121_X12_fits_68, if_neg c_121] at hJ_121
          exact ev_loc hJ_121 cw_le0
      refine ev_iinc_9 (pc := 186) (v := (q186_X12_fits_68 n I A J t x1 x2 x3 x4 x5 I93 A93 v93_9)) dX12_fits_186 (by decide) rfl rfl ?_
      refine ev_goto (pc := 189) (tgt := 93) dX12_fits_189 (by decide) ?_
      exact ev_loc (ih (qIm121_X12_fits_68 n I A J t x1 x2 x3 x4 x5 I93 A93 v93_9) (qAm121_X12_fits_68 n I A J t x1 x2 x3 x4 x5 I93 A93 v93_9) (q186_X12_fits_68 n I A J t x1 x2 x3 x4 x5 I93 A93 v93_9) w0 w1 w2 hb h0 h1 h2 hE) (cw_leS (cw_leS (cw_leS (cw_leS (cw_leS (cw_leS (cw_leS (cw_leS (cw_leS (cw_leS (cw_leN cw_le0)))))))))))

set_option maxRecDepth 100000 in
set_option maxHeartbeats 4000000 in
theorem cv_X12_fits_68 (g : cw_G) (n : Nat) (I : Nat → Nat → Int32) (A : Nat → Nat → Int32) (J : Nat → Nat → Int64) (t : Bool × Bool) (x1 : Int32) (x2 : Int32) (x3 : Int32) (x4 : Int32) (x5 : Int32) (hb : pb_X12_fits_68 n I A J t x1 x2 x3 x4 x5) : Cd g mX12_fits [(.ref (cw_z g + 68)), (.int x1), (.int x2), (.int x3), (.int x4), (.int x5)] (hp g I A J t) none (hp g (pI_X12_fits_68 n I A J t x1 x2 x3 x4 x5) (pA_X12_fits_68 n I A J t x1 x2 x3 x4 x5) J t) := by
  unfold pb_X12_fits_68 at hb
  unfold pI_X12_fits_68 pA_X12_fits_68
  refine Cd.of rfl (Nat.le_of_ble_eq_true rfl) (ev_gen (fun Q hQ => ?_))
  refine ev_bipush (pc := 0) (v := 6) dX12_fits_0 (by decide) ?_
  refine ev_iload_n (pc := 2) dX12_fits_2 rfl ?_
  refine ev_imul (pc := 3) dX12_fits_3 ?_
  refine ev_iload_n (pc := 4) dX12_fits_4 rfl ?_
  refine ev_iadd (pc := 5) dX12_fits_5 ?_
  refine ev_is (y := (q6_X12_fits_68 n I A J t x1 x2 x3 x4 x5)) rfl ?_
  refine ev_istore_6 (pc := 6) dX12_fits_6 (by decide) rfl ?_
  refine ev_aload_n (pc := 8) dX12_fits_8 rfl ?_
  refine tv_getr (pc := 9) (d := 114) dX12_fits_9 fl_X12_155 (by decide) rfl rfl ?_
  refine ev_iload (pc := 12) dX12_fits_12 rfl ?_
  refine ev_iconst (pc := 14) (v := (-1)) dX12_fits_14 (by decide) ?_
  refine tw_iast (pc := 15) (A2 := (qA15_X12_fits_68 n I A J t x1 x2 x3 x4 x5)) dX12_fits_15 (by decide) rfl hb.1 rfl ?_
  replace hb := hb.2
  refine ev_aload_n (pc := 16) dX12_fits_16 rfl ?_
  refine tv_getr (pc := 17) (d := 94) dX12_fits_17 fl_X12_95 (by decide) rfl rfl ?_
  refine ev_iload_n (pc := 20) dX12_fits_20 rfl ?_
  refine ev_iald (pc := 21) dX12_fits_21 (by decide) rfl hb.1 ?_
  replace hb := hb.2
  refine ev_is (y := (q22_X12_fits_68 n I A J t x1 x2 x3 x4 x5)) rfl ?_
  refine ev_istore_7 (pc := 22) dX12_fits_22 (by decide) rfl ?_
  refine ev_iload (pc := 24) dX12_fits_24 rfl ?_
  refine ev_aload_n (pc := 26) dX12_fits_26 rfl ?_
  refine tv_getr (pc := 27) (d := 95) dX12_fits_27 fl_X12_98 (by decide) rfl rfl ?_
  refine ev_iload_n (pc := 30) dX12_fits_30 rfl ?_
  refine ev_iald (pc := 31) dX12_fits_31 (by decide) rfl hb.1 ?_
  replace hb := hb.2
  have hF_32 := hb
  refine ev_icmp_lt (pc := 32) (tgt := 46) dX12_fits_32 (by decide) (fun c_32 => ?_) (fun c_32 => ?_)
  · try simp only [if_pos c_32] at hQ
    exact ev_vret (pc := 46) dX12_fits_46 rfl (by decide) (by decide) (hQ _ _ ⟨rfl, rfl⟩)
  · have hb := hF_32 c_32
    try simp only [if_neg c_32] at hQ
    refine ev_iload (pc := 35) dX12_fits_35 rfl ?_
    refine ev_aload_n (pc := 37) dX12_fits_37 rfl ?_
    refine tv_getr (pc := 38) (d := 96) dX12_fits_38 fl_X12_101 (by decide) rfl rfl ?_
    refine ev_iload_n (pc := 41) dX12_fits_41 rfl ?_
    refine ev_iald (pc := 42) dX12_fits_42 (by decide) rfl hb.1 ?_
    replace hb := hb.2
    have hT_43 := hb
    refine ev_icmp_lt (pc := 43) (tgt := 47) dX12_fits_43 (by decide) (fun c_43 => ?_) (fun c_43 => ?_)
    · have hb := hT_43 c_43
      try simp only [if_pos c_43] at hQ
      refine ev_aload_n (pc := 47) dX12_fits_47 rfl ?_
      refine ev_bipush (pc := 48) (v := 8) dX12_fits_48 (by decide) ?_
      refine ev_aload_n (pc := 50) dX12_fits_50 rfl ?_
      refine tv_getr (pc := 51) (d := 92) dX12_fits_51 fl_X12_89 (by decide) rfl rfl ?_
      refine ev_iload_n (pc := 54) dX12_fits_54 rfl ?_
      refine ev_iald (pc := 55) dX12_fits_55 (by decide) rfl hb.1 ?_
      replace hb := hb.2
      refine ev_iadd (pc := 56) dX12_fits_56 ?_
      refine ev_iload (pc := 57) dX12_fits_57 rfl ?_
      refine ev_Vv (pc := 59) dX12_fits_59 lk_X12_322 cd_X12_goes ar_X12_goes ⟨by decide, rfl, rfl⟩ (cv_X12_goes_68 g n I (qA15_X12_fits_68 n I A J t x1 x2 x3 x4 x5) J t ((8 : Int32) + ((qA15_X12_fits_68 n I A J t x1 x2 x3 x4 x5) 92 (x2).toNatClampNeg)) (q22_X12_fits_68 n I A J t x1 x2 x3 x4 x5) hb.1) (show 68 < 120 by decide) rfl rfl rfl rfl (Nat.le_of_ble_eq_true rfl) ⟨by decide, by decide⟩ ?_
      replace hb := hb.2
      refine ev_aload_n (pc := 62) dX12_fits_62 rfl ?_
      refine tv_geti (pc := 63) dX12_fits_63 fl_X12_319 (by decide) rfl rfl ?_
      refine ev_is (y := (q66_X12_fits_68 n I A J t x1 x2 x3 x4 x5)) rfl ?_
      refine ev_istore_8 (pc := 66) dX12_fits_66 (by decide) rfl ?_
      refine ev_aload_n (pc := 68) dX12_fits_68 rfl ?_
      refine tv_getr (pc := 69) (d := 117) dX12_fits_69 fl_X12_164 (by decide) rfl rfl ?_
      refine ev_iload_n (pc := 72) dX12_fits_72 rfl ?_
      refine ev_iald (pc := 73) dX12_fits_73 (by decide) rfl hb.1 ?_
      replace hb := hb.2
      refine ev_iconst (pc := 74) (v := (-1)) dX12_fits_74 (by decide) ?_
      obtain ⟨hT_75, hF_75⟩ := hb
      refine ev_icmp_eq (pc := 75) (tgt := 90) dX12_fits_75 (by decide) (fun c_75 => ?_) (fun c_75 => ?_)
      · have hb := hT_75 c_75
        try simp only [if_pos c_75] at hQ
        refine ev_iconst (pc := 90) (v := 0) dX12_fits_90 (by decide) ?_
        refine ev_istore_9 (pc := 91) dX12_fits_91 (by decide) rfl ?_
        refine lt_X12_fits_68_93 g n I A J t x1 x2 x3 x4 x5 n (pI_X12_goes_68 n I (qA15_X12_fits_68 n I A J t x1 x2 x3 x4 x5) J t ((8 : Int32) + ((qA15_X12_fits_68 n I A J t x1 x2 x3 x4 x5) 92 (x2).toNatClampNeg)) (q22_X12_fits_68 n I A J t x1 x2 x3 x4 x5)) (qA15_X12_fits_68 n I A J t x1 x2 x3 x4 x5) 0 (qIw93_X12_fits_68 n I A J t x1 x2 x3 x4 x5) (qAw93_X12_fits_68 n I A J t x1 x2 x3 x4 x5) (q9w93_X12_fits_68 n I A J t x1 x2 x3 x4 x5) hb.1 rfl rfl rfl ?_
        replace hb := hb.2
        refine ev_aload_n (pc := 192) dX12_fits_192 rfl ?_
        refine tv_getr (pc := 193) (d := 114) dX12_fits_193 fl_X12_155 (by decide) rfl rfl ?_
        refine ev_iload (pc := 196) dX12_fits_196 rfl ?_
        refine ev_iald (pc := 198) dX12_fits_198 (by decide) rfl hb.1 ?_
        replace hb := hb.2
        refine ev_iconst (pc := 199) (v := (-1)) dX12_fits_199 (by decide) ?_
        obtain ⟨hF_200, hb⟩ := hb
        refine ev_cut (pj := 223) (Lj := [some (.ref (cw_z g + 68)), some (.int x1), some (.int x2), some (.int x3), some (.int x4), some (.int x5), some (.int (q6_X12_fits_68 n I A J t x1 x2 x3 x4 x5)), some (.int (q22_X12_fits_68 n I A J t x1 x2 x3 x4 x5)), some (.int (q66_X12_fits_68 n I A J t x1 x2 x3 x4 x5)), some (.int (q9w93_X12_fits_68 n I A J t x1 x2 x3 x4 x5)), none]) (stj := []) (σj := hp g (qIw93_X12_fits_68 n I A J t x1 x2 x3 x4 x5) (qAm200_X12_fits_68 n I A J t x1 x2 x3 x4 x5) J t) ?_ (fun hJ_200 => ?_)
        rotate_left
        · refine ev_icmp_eq (pc := 200) (tgt := 223) dX12_fits_200 (by decide) (fun c_200 => ?_) (fun c_200 => ?_)
          · simp only [qAm200_X12_fits_68, if_pos c_200] at hJ_200
            exact ev_loc hJ_200 cw_le0
          · have hb := hF_200 c_200
            refine ev_aload_n (pc := 203) dX12_fits_203 rfl ?_
            refine tv_getr (pc := 204) (d := 115) dX12_fits_204 fl_X12_158 (by decide) rfl rfl ?_
            refine ev_iload (pc := 207) dX12_fits_207 rfl ?_
            refine ev_iald (pc := 209) dX12_fits_209 (by decide) rfl hb.1 ?_
            replace hb := hb.2
            refine ev_bipush (pc := 210) (v := 10) dX12_fits_210 (by decide) ?_
            have hF_212 := hb
            refine ev_cut (pj := 223) (Lj := [some (.ref (cw_z g + 68)), some (.int x1), some (.int x2), some (.int x3), some (.int x4), some (.int x5), some (.int (q6_X12_fits_68 n I A J t x1 x2 x3 x4 x5)), some (.int (q22_X12_fits_68 n I A J t x1 x2 x3 x4 x5)), some (.int (q66_X12_fits_68 n I A J t x1 x2 x3 x4 x5)), some (.int (q9w93_X12_fits_68 n I A J t x1 x2 x3 x4 x5)), none]) (stj := []) (σj := hp g (qIw93_X12_fits_68 n I A J t x1 x2 x3 x4 x5) (qAm212_X12_fits_68 n I A J t x1 x2 x3 x4 x5) J t) ?_ (fun hJ_212 => ?_)
            rotate_left
            · refine ev_icmp_ge (pc := 212) (tgt := 223) dX12_fits_212 (by decide) (fun c_212 => ?_) (fun c_212 => ?_)
              · simp only [qAm212_X12_fits_68, if_pos c_212] at hJ_212
                exact ev_loc hJ_212 cw_le0
              · have hb := hF_212 c_212
                refine ev_aload_n (pc := 215) dX12_fits_215 rfl ?_
                refine tv_getr (pc := 216) (d := 114) dX12_fits_216 fl_X12_155 (by decide) rfl rfl ?_
                refine ev_iload (pc := 219) dX12_fits_219 rfl ?_
                refine ev_iconst (pc := 221) (v := (-1)) dX12_fits_221 (by decide) ?_
                refine tw_iast (pc := 222) (A2 := (qA222_X12_fits_68 n I A J t x1 x2 x3 x4 x5)) dX12_fits_222 (by decide) rfl hb rfl ?_
                simp only [qAm212_X12_fits_68, if_neg c_212] at hJ_212
                exact ev_loc hJ_212 cw_le0
            simp only [qAm200_X12_fits_68, if_neg c_200] at hJ_200
            exact ev_loc hJ_200 cw_le0
        refine ev_aload_n (pc := 223) dX12_fits_223 rfl ?_
        refine tv_getr (pc := 224) (d := 116) dX12_fits_224 fl_X12_161 (by decide) rfl rfl ?_
        refine ev_iload (pc := 227) dX12_fits_227 rfl ?_
        refine ev_iload (pc := 229) dX12_fits_229 rfl ?_
        refine tw_iast (pc := 231) (A2 := (qA231_X12_fits_68 n I A J t x1 x2 x3 x4 x5)) dX12_fits_231 (by decide) rfl hb rfl ?_
        exact ev_vret (pc := 232) dX12_fits_232 rfl (by decide) (by decide) (hQ _ _ ⟨rfl, rfl⟩)
      · have hb := hF_75 c_75
        try simp only [if_neg c_75] at hQ
        refine ev_aload_n (pc := 78) dX12_fits_78 rfl ?_
        refine tv_getr (pc := 79) (d := 117) dX12_fits_79 fl_X12_164 (by decide) rfl rfl ?_
        refine ev_iload_n (pc := 82) dX12_fits_82 rfl ?_
        refine ev_iald (pc := 83) dX12_fits_83 (by decide) rfl hb.1 ?_
        replace hb := hb.2
        refine ev_iload (pc := 84) dX12_fits_84 rfl ?_
        have hT_86 := hb
        refine ev_icmp_eq (pc := 86) (tgt := 90) dX12_fits_86 (by decide) (fun c_86 => ?_) (fun c_86 => ?_)
        · have hb := hT_86 c_86
          try simp only [if_pos c_86] at hQ
          refine ev_iconst (pc := 90) (v := 0) dX12_fits_90 (by decide) ?_
          refine ev_istore_9 (pc := 91) dX12_fits_91 (by decide) rfl ?_
          refine lt_X12_fits_68_93_2 g n I A J t x1 x2 x3 x4 x5 n (pI_X12_goes_68 n I (qA15_X12_fits_68 n I A J t x1 x2 x3 x4 x5) J t ((8 : Int32) + ((qA15_X12_fits_68 n I A J t x1 x2 x3 x4 x5) 92 (x2).toNatClampNeg)) (q22_X12_fits_68 n I A J t x1 x2 x3 x4 x5)) (qA15_X12_fits_68 n I A J t x1 x2 x3 x4 x5) 0 (qIw93_1_X12_fits_68 n I A J t x1 x2 x3 x4 x5) (qAw93_2_X12_fits_68 n I A J t x1 x2 x3 x4 x5) (q9w93_3_X12_fits_68 n I A J t x1 x2 x3 x4 x5) hb.1 rfl rfl rfl ?_
          replace hb := hb.2
          refine ev_aload_n (pc := 192) dX12_fits_192 rfl ?_
          refine tv_getr (pc := 193) (d := 114) dX12_fits_193 fl_X12_155 (by decide) rfl rfl ?_
          refine ev_iload (pc := 196) dX12_fits_196 rfl ?_
          refine ev_iald (pc := 198) dX12_fits_198 (by decide) rfl hb.1 ?_
          replace hb := hb.2
          refine ev_iconst (pc := 199) (v := (-1)) dX12_fits_199 (by decide) ?_
          obtain ⟨hF_200, hb⟩ := hb
          refine ev_cut (pj := 223) (Lj := [some (.ref (cw_z g + 68)), some (.int x1), some (.int x2), some (.int x3), some (.int x4), some (.int x5), some (.int (q6_X12_fits_68 n I A J t x1 x2 x3 x4 x5)), some (.int (q22_X12_fits_68 n I A J t x1 x2 x3 x4 x5)), some (.int (q66_X12_fits_68 n I A J t x1 x2 x3 x4 x5)), some (.int (q9w93_3_X12_fits_68 n I A J t x1 x2 x3 x4 x5)), none]) (stj := []) (σj := hp g (qIw93_1_X12_fits_68 n I A J t x1 x2 x3 x4 x5) (qAm200_6_X12_fits_68 n I A J t x1 x2 x3 x4 x5) J t) ?_ (fun hJ_200 => ?_)
          rotate_left
          · refine ev_icmp_eq (pc := 200) (tgt := 223) dX12_fits_200 (by decide) (fun c_200 => ?_) (fun c_200 => ?_)
            · simp only [qAm200_6_X12_fits_68, if_pos c_200] at hJ_200
              exact ev_loc hJ_200 cw_le0
            · have hb := hF_200 c_200
              refine ev_aload_n (pc := 203) dX12_fits_203 rfl ?_
              refine tv_getr (pc := 204) (d := 115) dX12_fits_204 fl_X12_158 (by decide) rfl rfl ?_
              refine ev_iload (pc := 207) dX12_fits_207 rfl ?_
              refine ev_iald (pc := 209) dX12_fits_209 (by decide) rfl hb.1 ?_
              replace hb := hb.2
              refine ev_bipush (pc := 210) (v := 10) dX12_fits_210 (by decide) ?_
              have hF_212 := hb
              refine ev_cut (pj := 223) (Lj := [some (.ref (cw_z g + 68)), some (.int x1), some (.int x2), some (.int x3), some (.int x4), some (.int x5), some (.int (q6_X12_fits_68 n I A J t x1 x2 x3 x4 x5)), some (.int (q22_X12_fits_68 n I A J t x1 x2 x3 x4 x5)), some (.int (q66_X12_fits_68 n I A J t x1 x2 x3 x4 x5)), some (.int (q9w93_3_X12_fits_68 n I A J t x1 x2 x3 x4 x5)), none]) (stj := []) (σj := hp g (qIw93_1_X12_fits_68 n I A J t x1 x2 x3 x4 x5) (qAm212_5_X12_fits_68 n I A J t x1 x2 x3 x4 x5) J t) ?_ (fun hJ_212 => ?_)
              rotate_left
              · refine ev_icmp_ge (pc := 212) (tgt := 223) dX12_fits_212 (by decide) (fun c_212 => ?_) (fun c_212 => ?_)
                · simp only [qAm212_5_X12_fits_68, if_pos c_212] at hJ_212
                  exact ev_loc hJ_212 cw_le0
                · have hb := hF_212 c_212
                  refine ev_aload_n (pc := 215) dX12_fits_215 rfl ?_
                  refine tv_getr (pc := 216) (d := 114) dX12_fits_216 fl_X12_155 (by decide) rfl rfl ?_
                  refine ev_iload (pc := 219) dX12_fits_219 rfl ?_
                  refine ev_iconst (pc := 221) (v := (-1)) dX12_fits_221 (by decide) ?_
                  refine tw_iast (pc := 222) (A2 := (qA222_4_X12_fits_68 n I A J t x1 x2 x3 x4 x5)) dX12_fits_222 (by decide) rfl hb rfl ?_
                  simp only [qAm212_5_X12_fits_68, if_neg c_212] at hJ_212
                  exact ev_loc hJ_212 cw_le0
              simp only [qAm200_6_X12_fits_68, if_neg c_200] at hJ_200
              exact ev_loc hJ_200 cw_le0
          refine ev_aload_n (pc := 223) dX12_fits_223 rfl ?_
          refine tv_getr (pc := 224) (d := 116) dX12_fits_224 fl_X12_161 (by decide) rfl rfl ?_
          refine ev_iload (pc := 227) dX12_fits_227 rfl ?_
          refine ev_iload (pc := 229) dX12_fits_229 rfl ?_
          refine tw_iast (pc := 231) (A2 := (qA231_7_X12_fits_68 n I A J t x1 x2 x3 x4 x5)) dX12_fits_231 (by decide) rfl hb rfl ?_
          exact ev_vret (pc := 232) dX12_fits_232 rfl (by decide) (by decide) (hQ _ _ ⟨rfl, rfl⟩)
        · try simp only [if_neg c_86] at hQ
          exact ev_vret (pc := 89) dX12_fits_89 rfl (by decide) (by decide) (hQ _ _ ⟨rfl, rfl⟩)
    · try simp only [if_neg c_43] at hQ
      exact ev_vret (pc := 46) dX12_fits_46 rfl (by decide) (by decide) (hQ _ _ ⟨rfl, rfl⟩)

def qA22_X12_lays_68 (n : Nat) (I : Nat → Nat → Int32) (A : Nat → Nat → Int32) (J : Nat → Nat → Int64) (t : Bool × Bool) (x1 : Int32) (A2 : Nat → Nat → Int32) (v2_2 : Int32) : Nat → Nat → Int32 := cw_u A2 118 ((((64 : Int32) * (I 68 43)) + v2_2)).toNatClampNeg 0
def qA37_X12_lays_68 (n : Nat) (I : Nat → Nat → Int32) (A : Nat → Nat → Int32) (J : Nat → Nat → Int64) (t : Bool × Bool) (x1 : Int32) (A2 : Nat → Nat → Int32) (v2_2 : Int32) : Nat → Nat → Int32 := cw_u (qA22_X12_lays_68 n I A J t x1 A2 v2_2) 119 ((((64 : Int32) * (I 68 43)) + v2_2)).toNatClampNeg 0
def q38_X12_lays_68 (n : Nat) (I : Nat → Nat → Int32) (A : Nat → Nat → Int32) (J : Nat → Nat → Int64) (t : Bool × Bool) (x1 : Int32) (A2 : Nat → Nat → Int32) (v2_2 : Int32) : Int32 := v2_2 + 1
def lp_X12_lays_68_2 (n : Nat) (I : Nat → Nat → Int32) (A : Nat → Nat → Int32) (J : Nat → Nat → Int64) (t : Bool × Bool) (x1 : Int32) : Nat → (Nat → Nat → Int32) → (Int32) → (Nat → Nat → Int32) × Int32
  | 0, A2, v2_2 => (A2, v2_2)
  | f + 1, A2, v2_2 => if 64 ≤ v2_2 then (A2, v2_2) else lp_X12_lays_68_2 n I A J t x1 f (qA37_X12_lays_68 n I A J t x1 A2 v2_2) (q38_X12_lays_68 n I A J t x1 A2 v2_2)
def lb_X12_lays_68_2 (n : Nat) (I : Nat → Nat → Int32) (A : Nat → Nat → Int32) (J : Nat → Nat → Int64) (t : Bool × Bool) (x1 : Int32) : Nat → (Nat → Nat → Int32) → (Int32) → Prop
  | 0, _, _ => False
  | f + 1, A2, v2_2 => (¬ 64 ≤ v2_2 → vp_in (((64 : Int32) * (I 68 43)) + v2_2) 704 ∧ vp_in (((64 : Int32) * (I 68 43)) + v2_2) 704 ∧ lb_X12_lays_68_2 n I A J t x1 f (qA37_X12_lays_68 n I A J t x1 A2 v2_2) (q38_X12_lays_68 n I A J t x1 A2 v2_2))
def qAw2_X12_lays_68 (n : Nat) (I : Nat → Nat → Int32) (A : Nat → Nat → Int32) (J : Nat → Nat → Int64) (t : Bool × Bool) (x1 : Int32) : Nat → Nat → Int32 := (lp_X12_lays_68_2 n I A J t x1 n A 0).1
def q2w2_X12_lays_68 (n : Nat) (I : Nat → Nat → Int32) (A : Nat → Nat → Int32) (J : Nat → Nat → Int64) (t : Bool × Bool) (x1 : Int32) : Int32 := (lp_X12_lays_68_2 n I A J t x1 n A 0).2
def q50_X12_lays_68 (n : Nat) (I : Nat → Nat → Int32) (A : Nat → Nat → Int32) (J : Nat → Nat → Int64) (t : Bool × Bool) (x1 : Int32) : Int32 := ((I 68 43) - 1)
def q69_X12_lays_68 (n : Nat) (I : Nat → Nat → Int32) (A : Nat → Nat → Int32) (J : Nat → Nat → Int64) (t : Bool × Bool) (x1 : Int32) (A51 : Nat → Nat → Int32) (v51_2 : Int32) (A57 : Nat → Nat → Int32) (v57_3 : Int32) : Int32 := (((64 : Int32) * v51_2) + v57_3)
def qA90_X12_lays_68 (n : Nat) (I : Nat → Nat → Int32) (A : Nat → Nat → Int32) (J : Nat → Nat → Int64) (t : Bool × Bool) (x1 : Int32) (A51 : Nat → Nat → Int32) (v51_2 : Int32) (A57 : Nat → Nat → Int32) (v57_3 : Int32) : Nat → Nat → Int32 := cw_u A57 118 ((q69_X12_lays_68 n I A J t x1 A51 v51_2 A57 v57_3)).toNatClampNeg (A57 118 ((((64 : Int32) * (v51_2 + 1)) + v57_3)).toNatClampNeg)
def qA110_X12_lays_68 (n : Nat) (I : Nat → Nat → Int32) (A : Nat → Nat → Int32) (J : Nat → Nat → Int64) (t : Bool × Bool) (x1 : Int32) (A51 : Nat → Nat → Int32) (v51_2 : Int32) (A57 : Nat → Nat → Int32) (v57_3 : Int32) : Nat → Nat → Int32 := cw_u (qA90_X12_lays_68 n I A J t x1 A51 v51_2 A57 v57_3) 119 ((q69_X12_lays_68 n I A J t x1 A51 v51_2 A57 v57_3)).toNatClampNeg ((qA90_X12_lays_68 n I A J t x1 A51 v51_2 A57 v57_3) 119 ((((64 : Int32) * (v51_2 + 1)) + v57_3)).toNatClampNeg)
def q165_X12_lays_68 (n : Nat) (I : Nat → Nat → Int32) (A : Nat → Nat → Int32) (J : Nat → Nat → Int64) (t : Bool × Bool) (x1 : Int32) (A51 : Nat → Nat → Int32) (v51_2 : Int32) (A57 : Nat → Nat → Int32) (v57_3 : Int32) (A114 : Nat → Nat → Int32) (v114_5 : Int32) : Int32 := (((64 : Int32) * (v51_2 + 1)) + (v57_3 ||| ((1 : Int32) <<< (v114_5 &&& 31))))
def q186_X12_lays_68 (n : Nat) (I : Nat → Nat → Int32) (A : Nat → Nat → Int32) (J : Nat → Nat → Int64) (t : Bool × Bool) (x1 : Int32) (A51 : Nat → Nat → Int32) (v51_2 : Int32) (A57 : Nat → Nat → Int32) (v57_3 : Int32) (A114 : Nat → Nat → Int32) (v114_5 : Int32) : Int32 := ((A114 118 ((q165_X12_lays_68 n I A J t x1 A51 v51_2 A57 v57_3 A114 v114_5)).toNatClampNeg) + (A114 91 ((A114 94 (v51_2).toNatClampNeg)).toNatClampNeg))
def q208_X12_lays_68 (n : Nat) (I : Nat → Nat → Int32) (A : Nat → Nat → Int32) (J : Nat → Nat → Int64) (t : Bool × Bool) (x1 : Int32) (A51 : Nat → Nat → Int32) (v51_2 : Int32) (A57 : Nat → Nat → Int32) (v57_3 : Int32) (A114 : Nat → Nat → Int32) (v114_5 : Int32) : Int32 := ((A114 119 ((q165_X12_lays_68 n I A J t x1 A51 v51_2 A57 v57_3 A114 v114_5)).toNatClampNeg) + (A114 115 ((((6 : Int32) * v51_2) + v114_5)).toNatClampNeg))
def qA257_X12_lays_68 (n : Nat) (I : Nat → Nat → Int32) (A : Nat → Nat → Int32) (J : Nat → Nat → Int64) (t : Bool × Bool) (x1 : Int32) (A51 : Nat → Nat → Int32) (v51_2 : Int32) (A57 : Nat → Nat → Int32) (v57_3 : Int32) (A114 : Nat → Nat → Int32) (v114_5 : Int32) : Nat → Nat → Int32 := cw_u A114 118 ((q69_X12_lays_68 n I A J t x1 A51 v51_2 A57 v57_3)).toNatClampNeg (q186_X12_lays_68 n I A J t x1 A51 v51_2 A57 v57_3 A114 v114_5)
def qA266_X12_lays_68 (n : Nat) (I : Nat → Nat → Int32) (A : Nat → Nat → Int32) (J : Nat → Nat → Int64) (t : Bool × Bool) (x1 : Int32) (A51 : Nat → Nat → Int32) (v51_2 : Int32) (A57 : Nat → Nat → Int32) (v57_3 : Int32) (A114 : Nat → Nat → Int32) (v114_5 : Int32) : Nat → Nat → Int32 := cw_u (qA257_X12_lays_68 n I A J t x1 A51 v51_2 A57 v57_3 A114 v114_5) 119 ((q69_X12_lays_68 n I A J t x1 A51 v51_2 A57 v57_3)).toNatClampNeg (q208_X12_lays_68 n I A J t x1 A51 v51_2 A57 v57_3 A114 v114_5)
def qAm243_X12_lays_68 (n : Nat) (I : Nat → Nat → Int32) (A : Nat → Nat → Int32) (J : Nat → Nat → Int64) (t : Bool × Bool) (x1 : Int32) (A51 : Nat → Nat → Int32) (v51_2 : Int32) (A57 : Nat → Nat → Int32) (v57_3 : Int32) (A114 : Nat → Nat → Int32) (v114_5 : Int32) : Nat → Nat → Int32 := if (A114 119 ((q69_X12_lays_68 n I A J t x1 A51 v51_2 A57 v57_3)).toNatClampNeg) < (q208_X12_lays_68 n I A J t x1 A51 v51_2 A57 v57_3 A114 v114_5) then (qA266_X12_lays_68 n I A J t x1 A51 v51_2 A57 v57_3 A114 v114_5) else A114
def qAm231_X12_lays_68 (n : Nat) (I : Nat → Nat → Int32) (A : Nat → Nat → Int32) (J : Nat → Nat → Int64) (t : Bool × Bool) (x1 : Int32) (A51 : Nat → Nat → Int32) (v51_2 : Int32) (A57 : Nat → Nat → Int32) (v57_3 : Int32) (A114 : Nat → Nat → Int32) (v114_5 : Int32) : Nat → Nat → Int32 := if (q186_X12_lays_68 n I A J t x1 A51 v51_2 A57 v57_3 A114 v114_5) = (A114 118 ((q69_X12_lays_68 n I A J t x1 A51 v51_2 A57 v57_3)).toNatClampNeg) then (qAm243_X12_lays_68 n I A J t x1 A51 v51_2 A57 v57_3 A114 v114_5) else (qA266_X12_lays_68 n I A J t x1 A51 v51_2 A57 v57_3 A114 v114_5)
def qAm219_X12_lays_68 (n : Nat) (I : Nat → Nat → Int32) (A : Nat → Nat → Int32) (J : Nat → Nat → Int64) (t : Bool × Bool) (x1 : Int32) (A51 : Nat → Nat → Int32) (v51_2 : Int32) (A57 : Nat → Nat → Int32) (v57_3 : Int32) (A114 : Nat → Nat → Int32) (v114_5 : Int32) : Nat → Nat → Int32 := if (q186_X12_lays_68 n I A J t x1 A51 v51_2 A57 v57_3 A114 v114_5) < (A114 118 ((q69_X12_lays_68 n I A J t x1 A51 v51_2 A57 v57_3)).toNatClampNeg) then A114 else (qAm231_X12_lays_68 n I A J t x1 A51 v51_2 A57 v57_3 A114 v114_5)
def qAm146_X12_lays_68 (n : Nat) (I : Nat → Nat → Int32) (A : Nat → Nat → Int32) (J : Nat → Nat → Int64) (t : Bool × Bool) (x1 : Int32) (A51 : Nat → Nat → Int32) (v51_2 : Int32) (A57 : Nat → Nat → Int32) (v57_3 : Int32) (A114 : Nat → Nat → Int32) (v114_5 : Int32) : Nat → Nat → Int32 := if (A114 114 ((((6 : Int32) * v51_2) + v114_5)).toNatClampNeg) = (-1) then A114 else (qAm219_X12_lays_68 n I A J t x1 A51 v51_2 A57 v57_3 A114 v114_5)
def qAm130_X12_lays_68 (n : Nat) (I : Nat → Nat → Int32) (A : Nat → Nat → Int32) (J : Nat → Nat → Int64) (t : Bool × Bool) (x1 : Int32) (A51 : Nat → Nat → Int32) (v51_2 : Int32) (A57 : Nat → Nat → Int32) (v57_3 : Int32) (A114 : Nat → Nat → Int32) (v114_5 : Int32) : Nat → Nat → Int32 := if ((v57_3 >>> (v114_5 &&& 31)) &&& 1) = 1 then A114 else (qAm146_X12_lays_68 n I A J t x1 A51 v51_2 A57 v57_3 A114 v114_5)
def q267_X12_lays_68 (n : Nat) (I : Nat → Nat → Int32) (A : Nat → Nat → Int32) (J : Nat → Nat → Int64) (t : Bool × Bool) (x1 : Int32) (A51 : Nat → Nat → Int32) (v51_2 : Int32) (A57 : Nat → Nat → Int32) (v57_3 : Int32) (A114 : Nat → Nat → Int32) (v114_5 : Int32) : Int32 := v114_5 + 1
def lp_X12_lays_68_114 (n : Nat) (I : Nat → Nat → Int32) (A : Nat → Nat → Int32) (J : Nat → Nat → Int64) (t : Bool × Bool) (x1 : Int32) (A51 : Nat → Nat → Int32) (v51_2 : Int32) (A57 : Nat → Nat → Int32) (v57_3 : Int32) : Nat → (Nat → Nat → Int32) → (Int32) → (Nat → Nat → Int32) × Int32
  | 0, A114, v114_5 => (A114, v114_5)
  | f + 1, A114, v114_5 => if (I 68 40) ≤ v114_5 then (A114, v114_5) else lp_X12_lays_68_114 n I A J t x1 A51 v51_2 A57 v57_3 f (qAm130_X12_lays_68 n I A J t x1 A51 v51_2 A57 v57_3 A114 v114_5) (q267_X12_lays_68 n I A J t x1 A51 v51_2 A57 v57_3 A114 v114_5)
def lb_X12_lays_68_114 (n : Nat) (I : Nat → Nat → Int32) (A : Nat → Nat → Int32) (J : Nat → Nat → Int64) (t : Bool × Bool) (x1 : Int32) (A51 : Nat → Nat → Int32) (v51_2 : Int32) (A57 : Nat → Nat → Int32) (v57_3 : Int32) : Nat → (Nat → Nat → Int32) → (Int32) → Prop
  | 0, _, _ => False
  | f + 1, A114, v114_5 => (¬ (I 68 40) ≤ v114_5 → (¬ ((v57_3 >>> (v114_5 &&& 31)) &&& 1) = 1 → vp_in (((6 : Int32) * v51_2) + v114_5) 60 ∧ (¬ (A114 114 ((((6 : Int32) * v51_2) + v114_5)).toNatClampNeg) = (-1) → vp_in (q165_X12_lays_68 n I A J t x1 A51 v51_2 A57 v57_3 A114 v114_5) 704 ∧ vp_in v51_2 10 ∧ vp_in (A114 94 (v51_2).toNatClampNeg) 8 ∧ vp_in (q165_X12_lays_68 n I A J t x1 A51 v51_2 A57 v57_3 A114 v114_5) 704 ∧ vp_in (((6 : Int32) * v51_2) + v114_5) 60 ∧ vp_in (q69_X12_lays_68 n I A J t x1 A51 v51_2 A57 v57_3) 704 ∧ (¬ (q186_X12_lays_68 n I A J t x1 A51 v51_2 A57 v57_3 A114 v114_5) < (A114 118 ((q69_X12_lays_68 n I A J t x1 A51 v51_2 A57 v57_3)).toNatClampNeg) → vp_in (q69_X12_lays_68 n I A J t x1 A51 v51_2 A57 v57_3) 704 ∧ (¬ (q186_X12_lays_68 n I A J t x1 A51 v51_2 A57 v57_3 A114 v114_5) = (A114 118 ((q69_X12_lays_68 n I A J t x1 A51 v51_2 A57 v57_3)).toNatClampNeg) → vp_in (q69_X12_lays_68 n I A J t x1 A51 v51_2 A57 v57_3) 704 ∧ vp_in (q69_X12_lays_68 n I A J t x1 A51 v51_2 A57 v57_3) 704) ∧ ((q186_X12_lays_68 n I A J t x1 A51 v51_2 A57 v57_3 A114 v114_5) = (A114 118 ((q69_X12_lays_68 n I A J t x1 A51 v51_2 A57 v57_3)).toNatClampNeg) → vp_in (q69_X12_lays_68 n I A J t x1 A51 v51_2 A57 v57_3) 704 ∧ ((A114 119 ((q69_X12_lays_68 n I A J t x1 A51 v51_2 A57 v57_3)).toNatClampNeg) < (q208_X12_lays_68 n I A J t x1 A51 v51_2 A57 v57_3 A114 v114_5) → vp_in (q69_X12_lays_68 n I A J t x1 A51 v51_2 A57 v57_3) 704 ∧ vp_in (q69_X12_lays_68 n I A J t x1 A51 v51_2 A57 v57_3) 704))))) ∧ lb_X12_lays_68_114 n I A J t x1 A51 v51_2 A57 v57_3 f (qAm130_X12_lays_68 n I A J t x1 A51 v51_2 A57 v57_3 A114 v114_5) (q267_X12_lays_68 n I A J t x1 A51 v51_2 A57 v57_3 A114 v114_5))
def qAw114_X12_lays_68 (n : Nat) (I : Nat → Nat → Int32) (A : Nat → Nat → Int32) (J : Nat → Nat → Int64) (t : Bool × Bool) (x1 : Int32) (A51 : Nat → Nat → Int32) (v51_2 : Int32) (A57 : Nat → Nat → Int32) (v57_3 : Int32) : Nat → Nat → Int32 := (lp_X12_lays_68_114 n I A J t x1 A51 v51_2 A57 v57_3 n (qA110_X12_lays_68 n I A J t x1 A51 v51_2 A57 v57_3) 0).1
def q5w114_X12_lays_68 (n : Nat) (I : Nat → Nat → Int32) (A : Nat → Nat → Int32) (J : Nat → Nat → Int64) (t : Bool × Bool) (x1 : Int32) (A51 : Nat → Nat → Int32) (v51_2 : Int32) (A57 : Nat → Nat → Int32) (v57_3 : Int32) : Int32 := (lp_X12_lays_68_114 n I A J t x1 A51 v51_2 A57 v57_3 n (qA110_X12_lays_68 n I A J t x1 A51 v51_2 A57 v57_3) 0).2
def q273_X12_lays_68 (n : Nat) (I : Nat → Nat → Int32) (A : Nat → Nat → Int32) (J : Nat → Nat → Int64) (t : Bool × Bool) (x1 : Int32) (A51 : Nat → Nat → Int32) (v51_2 : Int32) (A57 : Nat → Nat → Int32) (v57_3 : Int32) : Int32 := v57_3 + 1
def lp_X12_lays_68_57 (n : Nat) (I : Nat → Nat → Int32) (A : Nat → Nat → Int32) (J : Nat → Nat → Int64) (t : Bool × Bool) (x1 : Int32) (A51 : Nat → Nat → Int32) (v51_2 : Int32) : Nat → (Nat → Nat → Int32) → (Int32) → (Nat → Nat → Int32) × Int32
  | 0, A57, v57_3 => (A57, v57_3)
  | f + 1, A57, v57_3 => if 64 ≤ v57_3 then (A57, v57_3) else lp_X12_lays_68_57 n I A J t x1 A51 v51_2 f (qAw114_X12_lays_68 n I A J t x1 A51 v51_2 A57 v57_3) (q273_X12_lays_68 n I A J t x1 A51 v51_2 A57 v57_3)
def lb_X12_lays_68_57 (n : Nat) (I : Nat → Nat → Int32) (A : Nat → Nat → Int32) (J : Nat → Nat → Int64) (t : Bool × Bool) (x1 : Int32) (A51 : Nat → Nat → Int32) (v51_2 : Int32) : Nat → (Nat → Nat → Int32) → (Int32) → Prop
  | 0, _, _ => False
  | f + 1, A57, v57_3 => (¬ 64 ≤ v57_3 → vp_in (((64 : Int32) * (v51_2 + 1)) + v57_3) 704 ∧ vp_in (q69_X12_lays_68 n I A J t x1 A51 v51_2 A57 v57_3) 704 ∧ vp_in (((64 : Int32) * (v51_2 + 1)) + v57_3) 704 ∧ vp_in (q69_X12_lays_68 n I A J t x1 A51 v51_2 A57 v57_3) 704 ∧ lb_X12_lays_68_114 n I A J t x1 A51 v51_2 A57 v57_3 n (qA110_X12_lays_68 n I A J t x1 A51 v51_2 A57 v57_3) 0 ∧ lb_X12_lays_68_57 n I A J t x1 A51 v51_2 f (qAw114_X12_lays_68 n I A J t x1 A51 v51_2 A57 v57_3) (q273_X12_lays_68 n I A J t x1 A51 v51_2 A57 v57_3))
def qAw57_X12_lays_68 (n : Nat) (I : Nat → Nat → Int32) (A : Nat → Nat → Int32) (J : Nat → Nat → Int64) (t : Bool × Bool) (x1 : Int32) (A51 : Nat → Nat → Int32) (v51_2 : Int32) : Nat → Nat → Int32 := (lp_X12_lays_68_57 n I A J t x1 A51 v51_2 n A51 0).1
def q3w57_X12_lays_68 (n : Nat) (I : Nat → Nat → Int32) (A : Nat → Nat → Int32) (J : Nat → Nat → Int64) (t : Bool × Bool) (x1 : Int32) (A51 : Nat → Nat → Int32) (v51_2 : Int32) : Int32 := (lp_X12_lays_68_57 n I A J t x1 A51 v51_2 n A51 0).2
def q279_X12_lays_68 (n : Nat) (I : Nat → Nat → Int32) (A : Nat → Nat → Int32) (J : Nat → Nat → Int64) (t : Bool × Bool) (x1 : Int32) (A51 : Nat → Nat → Int32) (v51_2 : Int32) : Int32 := v51_2 + (-1)
def lp_X12_lays_68_51 (n : Nat) (I : Nat → Nat → Int32) (A : Nat → Nat → Int32) (J : Nat → Nat → Int64) (t : Bool × Bool) (x1 : Int32) : Nat → (Nat → Nat → Int32) → (Int32) → (Nat → Nat → Int32) × Int32
  | 0, A51, v51_2 => (A51, v51_2)
  | f + 1, A51, v51_2 => if v51_2 < 0 then (A51, v51_2) else lp_X12_lays_68_51 n I A J t x1 f (qAw57_X12_lays_68 n I A J t x1 A51 v51_2) (q279_X12_lays_68 n I A J t x1 A51 v51_2)
def lb_X12_lays_68_51 (n : Nat) (I : Nat → Nat → Int32) (A : Nat → Nat → Int32) (J : Nat → Nat → Int64) (t : Bool × Bool) (x1 : Int32) : Nat → (Nat → Nat → Int32) → (Int32) → Prop
  | 0, _, _ => False
  | f + 1, A51, v51_2 => (¬ v51_2 < 0 → lb_X12_lays_68_57 n I A J t x1 A51 v51_2 n A51 0 ∧ lb_X12_lays_68_51 n I A J t x1 f (qAw57_X12_lays_68 n I A J t x1 A51 v51_2) (q279_X12_lays_68 n I A J t x1 A51 v51_2))
def qAw51_X12_lays_68 (n : Nat) (I : Nat → Nat → Int32) (A : Nat → Nat → Int32) (J : Nat → Nat → Int64) (t : Bool × Bool) (x1 : Int32) : Nat → Nat → Int32 := (lp_X12_lays_68_51 n I A J t x1 n (qAw2_X12_lays_68 n I A J t x1) (q50_X12_lays_68 n I A J t x1)).1
def q2w51_X12_lays_68 (n : Nat) (I : Nat → Nat → Int32) (A : Nat → Nat → Int32) (J : Nat → Nat → Int64) (t : Bool × Bool) (x1 : Int32) : Int32 := (lp_X12_lays_68_51 n I A J t x1 n (qAw2_X12_lays_68 n I A J t x1) (q50_X12_lays_68 n I A J t x1)).2
def qA296_X12_lays_68 (n : Nat) (I : Nat → Nat → Int32) (A : Nat → Nat → Int32) (J : Nat → Nat → Int64) (t : Bool × Bool) (x1 : Int32) : Nat → Nat → Int32 := cw_u (qAw51_X12_lays_68 n I A J t x1) 113 (x1).toNatClampNeg ((qAw51_X12_lays_68 n I A J t x1) 118 ((0 : Int32)).toNatClampNeg)
def qA313_X12_lays_68 (n : Nat) (I : Nat → Nat → Int32) (A : Nat → Nat → Int32) (J : Nat → Nat → Int64) (t : Bool × Bool) (x1 : Int32) (A301 : Nat → Nat → Int32) (v301_3 : Int32) : Nat → Nat → Int32 := cw_u A301 117 (v301_3).toNatClampNeg (-1)
def q314_X12_lays_68 (n : Nat) (I : Nat → Nat → Int32) (A : Nat → Nat → Int32) (J : Nat → Nat → Int64) (t : Bool × Bool) (x1 : Int32) (A301 : Nat → Nat → Int32) (v301_3 : Int32) : Int32 := v301_3 + 1
def lp_X12_lays_68_301 (n : Nat) (I : Nat → Nat → Int32) (A : Nat → Nat → Int32) (J : Nat → Nat → Int64) (t : Bool × Bool) (x1 : Int32) : Nat → (Nat → Nat → Int32) → (Int32) → (Nat → Nat → Int32) × Int32
  | 0, A301, v301_3 => (A301, v301_3)
  | f + 1, A301, v301_3 => if 6 ≤ v301_3 then (A301, v301_3) else lp_X12_lays_68_301 n I A J t x1 f (qA313_X12_lays_68 n I A J t x1 A301 v301_3) (q314_X12_lays_68 n I A J t x1 A301 v301_3)
def lb_X12_lays_68_301 (n : Nat) (I : Nat → Nat → Int32) (A : Nat → Nat → Int32) (J : Nat → Nat → Int64) (t : Bool × Bool) (x1 : Int32) : Nat → (Nat → Nat → Int32) → (Int32) → Prop
  | 0, _, _ => False
  | f + 1, A301, v301_3 => (¬ 6 ≤ v301_3 → vp_in v301_3 6 ∧ lb_X12_lays_68_301 n I A J t x1 f (qA313_X12_lays_68 n I A J t x1 A301 v301_3) (q314_X12_lays_68 n I A J t x1 A301 v301_3))
def qAw301_X12_lays_68 (n : Nat) (I : Nat → Nat → Int32) (A : Nat → Nat → Int32) (J : Nat → Nat → Int64) (t : Bool × Bool) (x1 : Int32) : Nat → Nat → Int32 := (lp_X12_lays_68_301 n I A J t x1 n (qA296_X12_lays_68 n I A J t x1) 0).1
def q3w301_X12_lays_68 (n : Nat) (I : Nat → Nat → Int32) (A : Nat → Nat → Int32) (J : Nat → Nat → Int64) (t : Bool × Bool) (x1 : Int32) : Int32 := (lp_X12_lays_68_301 n I A J t x1 n (qA296_X12_lays_68 n I A J t x1) 0).2
def q336_X12_lays_68 (n : Nat) (I : Nat → Nat → Int32) (A : Nat → Nat → Int32) (J : Nat → Nat → Int64) (t : Bool × Bool) (x1 : Int32) (A322 : Nat → Nat → Int32) (v322_2 : Int32) (v322_3 : Int32) : Int32 := (((10 : Int32) * x1) + v322_3)
def qA345_X12_lays_68 (n : Nat) (I : Nat → Nat → Int32) (A : Nat → Nat → Int32) (J : Nat → Nat → Int64) (t : Bool × Bool) (x1 : Int32) (A322 : Nat → Nat → Int32) (v322_2 : Int32) (v322_3 : Int32) : Nat → Nat → Int32 := cw_u A322 109 ((q336_X12_lays_68 n I A J t x1 A322 v322_2 v322_3)).toNatClampNeg (-1)
def q352_X12_lays_68 (n : Nat) (I : Nat → Nat → Int32) (A : Nat → Nat → Int32) (J : Nat → Nat → Int64) (t : Bool × Bool) (x1 : Int32) (A322 : Nat → Nat → Int32) (v322_2 : Int32) (v322_3 : Int32) : Int32 := ((I 68 40) - 1)
def q401_X12_lays_68 (n : Nat) (I : Nat → Nat → Int32) (A : Nat → Nat → Int32) (J : Nat → Nat → Int64) (t : Bool × Bool) (x1 : Int32) (A322 : Nat → Nat → Int32) (v322_2 : Int32) (v322_3 : Int32) (A354 : Nat → Nat → Int32) (v354_5 : Int32) : Int32 := (((64 : Int32) * (v322_3 + 1)) + (v322_2 ||| ((1 : Int32) <<< (v354_5 &&& 31))))
def qA478_X12_lays_68 (n : Nat) (I : Nat → Nat → Int32) (A : Nat → Nat → Int32) (J : Nat → Nat → Int64) (t : Bool × Bool) (x1 : Int32) (A322 : Nat → Nat → Int32) (v322_2 : Int32) (v322_3 : Int32) (A354 : Nat → Nat → Int32) (v354_5 : Int32) : Nat → Nat → Int32 := cw_u A354 109 ((q336_X12_lays_68 n I A J t x1 A322 v322_2 v322_3)).toNatClampNeg v354_5
def qAm467_X12_lays_68 (n : Nat) (I : Nat → Nat → Int32) (A : Nat → Nat → Int32) (J : Nat → Nat → Int64) (t : Bool × Bool) (x1 : Int32) (A322 : Nat → Nat → Int32) (v322_2 : Int32) (v322_3 : Int32) (A354 : Nat → Nat → Int32) (v354_5 : Int32) : Nat → Nat → Int32 := if ((A354 119 ((q401_X12_lays_68 n I A J t x1 A322 v322_2 v322_3 A354 v354_5)).toNatClampNeg) + (A354 115 ((((6 : Int32) * v322_3) + v354_5)).toNatClampNeg)) = (A354 119 ((((64 : Int32) * v322_3) + v322_2)).toNatClampNeg) then (qA478_X12_lays_68 n I A J t x1 A322 v322_2 v322_3 A354 v354_5) else A354
def qAm433_X12_lays_68 (n : Nat) (I : Nat → Nat → Int32) (A : Nat → Nat → Int32) (J : Nat → Nat → Int64) (t : Bool × Bool) (x1 : Int32) (A322 : Nat → Nat → Int32) (v322_2 : Int32) (v322_3 : Int32) (A354 : Nat → Nat → Int32) (v354_5 : Int32) : Nat → Nat → Int32 := if ((A354 118 ((q401_X12_lays_68 n I A J t x1 A322 v322_2 v322_3 A354 v354_5)).toNatClampNeg) + (A354 91 ((A354 94 (v322_3).toNatClampNeg)).toNatClampNeg)) = (A354 118 ((((64 : Int32) * v322_3) + v322_2)).toNatClampNeg) then (qAm467_X12_lays_68 n I A J t x1 A322 v322_2 v322_3 A354 v354_5) else A354
def qAm382_X12_lays_68 (n : Nat) (I : Nat → Nat → Int32) (A : Nat → Nat → Int32) (J : Nat → Nat → Int64) (t : Bool × Bool) (x1 : Int32) (A322 : Nat → Nat → Int32) (v322_2 : Int32) (v322_3 : Int32) (A354 : Nat → Nat → Int32) (v354_5 : Int32) : Nat → Nat → Int32 := if (A354 114 ((((6 : Int32) * v322_3) + v354_5)).toNatClampNeg) = (-1) then A354 else (qAm433_X12_lays_68 n I A J t x1 A322 v322_2 v322_3 A354 v354_5)
def qAm366_X12_lays_68 (n : Nat) (I : Nat → Nat → Int32) (A : Nat → Nat → Int32) (J : Nat → Nat → Int64) (t : Bool × Bool) (x1 : Int32) (A322 : Nat → Nat → Int32) (v322_2 : Int32) (v322_3 : Int32) (A354 : Nat → Nat → Int32) (v354_5 : Int32) : Nat → Nat → Int32 := if ((v322_2 >>> (v354_5 &&& 31)) &&& 1) = 1 then A354 else (qAm382_X12_lays_68 n I A J t x1 A322 v322_2 v322_3 A354 v354_5)
def q479_X12_lays_68 (n : Nat) (I : Nat → Nat → Int32) (A : Nat → Nat → Int32) (J : Nat → Nat → Int64) (t : Bool × Bool) (x1 : Int32) (A322 : Nat → Nat → Int32) (v322_2 : Int32) (v322_3 : Int32) (A354 : Nat → Nat → Int32) (v354_5 : Int32) : Int32 := v354_5 + (-1)
def lp_X12_lays_68_354 (n : Nat) (I : Nat → Nat → Int32) (A : Nat → Nat → Int32) (J : Nat → Nat → Int64) (t : Bool × Bool) (x1 : Int32) (A322 : Nat → Nat → Int32) (v322_2 : Int32) (v322_3 : Int32) : Nat → (Nat → Nat → Int32) → (Int32) → (Nat → Nat → Int32) × Int32
  | 0, A354, v354_5 => (A354, v354_5)
  | f + 1, A354, v354_5 => if v354_5 < 0 then (A354, v354_5) else lp_X12_lays_68_354 n I A J t x1 A322 v322_2 v322_3 f (qAm366_X12_lays_68 n I A J t x1 A322 v322_2 v322_3 A354 v354_5) (q479_X12_lays_68 n I A J t x1 A322 v322_2 v322_3 A354 v354_5)
def lb_X12_lays_68_354 (n : Nat) (I : Nat → Nat → Int32) (A : Nat → Nat → Int32) (J : Nat → Nat → Int64) (t : Bool × Bool) (x1 : Int32) (A322 : Nat → Nat → Int32) (v322_2 : Int32) (v322_3 : Int32) : Nat → (Nat → Nat → Int32) → (Int32) → Prop
  | 0, _, _ => False
  | f + 1, A354, v354_5 => (¬ v354_5 < 0 → (¬ ((v322_2 >>> (v354_5 &&& 31)) &&& 1) = 1 → vp_in (((6 : Int32) * v322_3) + v354_5) 60 ∧ (¬ (A354 114 ((((6 : Int32) * v322_3) + v354_5)).toNatClampNeg) = (-1) → vp_in (q401_X12_lays_68 n I A J t x1 A322 v322_2 v322_3 A354 v354_5) 704 ∧ vp_in v322_3 10 ∧ vp_in (A354 94 (v322_3).toNatClampNeg) 8 ∧ vp_in (((64 : Int32) * v322_3) + v322_2) 704 ∧ (((A354 118 ((q401_X12_lays_68 n I A J t x1 A322 v322_2 v322_3 A354 v354_5)).toNatClampNeg) + (A354 91 ((A354 94 (v322_3).toNatClampNeg)).toNatClampNeg)) = (A354 118 ((((64 : Int32) * v322_3) + v322_2)).toNatClampNeg) → vp_in (q401_X12_lays_68 n I A J t x1 A322 v322_2 v322_3 A354 v354_5) 704 ∧ vp_in (((6 : Int32) * v322_3) + v354_5) 60 ∧ vp_in (((64 : Int32) * v322_3) + v322_2) 704 ∧ (((A354 119 ((q401_X12_lays_68 n I A J t x1 A322 v322_2 v322_3 A354 v354_5)).toNatClampNeg) + (A354 115 ((((6 : Int32) * v322_3) + v354_5)).toNatClampNeg)) = (A354 119 ((((64 : Int32) * v322_3) + v322_2)).toNatClampNeg) → vp_in (q336_X12_lays_68 n I A J t x1 A322 v322_2 v322_3) 240)))) ∧ lb_X12_lays_68_354 n I A J t x1 A322 v322_2 v322_3 f (qAm366_X12_lays_68 n I A J t x1 A322 v322_2 v322_3 A354 v354_5) (q479_X12_lays_68 n I A J t x1 A322 v322_2 v322_3 A354 v354_5))
def qAw354_X12_lays_68 (n : Nat) (I : Nat → Nat → Int32) (A : Nat → Nat → Int32) (J : Nat → Nat → Int64) (t : Bool × Bool) (x1 : Int32) (A322 : Nat → Nat → Int32) (v322_2 : Int32) (v322_3 : Int32) : Nat → Nat → Int32 := (lp_X12_lays_68_354 n I A J t x1 A322 v322_2 v322_3 n (qA345_X12_lays_68 n I A J t x1 A322 v322_2 v322_3) (q352_X12_lays_68 n I A J t x1 A322 v322_2 v322_3)).1
def q5w354_X12_lays_68 (n : Nat) (I : Nat → Nat → Int32) (A : Nat → Nat → Int32) (J : Nat → Nat → Int64) (t : Bool × Bool) (x1 : Int32) (A322 : Nat → Nat → Int32) (v322_2 : Int32) (v322_3 : Int32) : Int32 := (lp_X12_lays_68_354 n I A J t x1 A322 v322_2 v322_3 n (qA345_X12_lays_68 n I A J t x1 A322 v322_2 v322_3) (q352_X12_lays_68 n I A J t x1 A322 v322_2 v322_3)).2
def q492_X12_lays_68 (n : Nat) (I : Nat → Nat → Int32) (A : Nat → Nat → Int32) (J : Nat → Nat → Int64) (t : Bool × Bool) (x1 : Int32) (A322 : Nat → Nat → Int32) (v322_2 : Int32) (v322_3 : Int32) : Int32 := ((qAw354_X12_lays_68 n I A J t x1 A322 v322_2 v322_3) 109 ((q336_X12_lays_68 n I A J t x1 A322 v322_2 v322_3)).toNatClampNeg)
def q509_X12_lays_68 (n : Nat) (I : Nat → Nat → Int32) (A : Nat → Nat → Int32) (J : Nat → Nat → Int64) (t : Bool × Bool) (x1 : Int32) (A322 : Nat → Nat → Int32) (v322_2 : Int32) (v322_3 : Int32) : Int32 := (v322_2 ||| ((1 : Int32) <<< ((q492_X12_lays_68 n I A J t x1 A322 v322_2 v322_3) &&& 31)))
def qA528_X12_lays_68 (n : Nat) (I : Nat → Nat → Int32) (A : Nat → Nat → Int32) (J : Nat → Nat → Int64) (t : Bool × Bool) (x1 : Int32) (A322 : Nat → Nat → Int32) (v322_2 : Int32) (v322_3 : Int32) : Nat → Nat → Int32 := cw_u (qAw354_X12_lays_68 n I A J t x1 A322 v322_2 v322_3) 117 ((q492_X12_lays_68 n I A J t x1 A322 v322_2 v322_3)).toNatClampNeg ((qAw354_X12_lays_68 n I A J t x1 A322 v322_2 v322_3) 116 ((((6 : Int32) * v322_3) + (q492_X12_lays_68 n I A J t x1 A322 v322_2 v322_3))).toNatClampNeg)
def qA547_X12_lays_68 (n : Nat) (I : Nat → Nat → Int32) (A : Nat → Nat → Int32) (J : Nat → Nat → Int64) (t : Bool × Bool) (x1 : Int32) (A322 : Nat → Nat → Int32) (v322_2 : Int32) (v322_3 : Int32) : Nat → Nat → Int32 := cw_u (qA528_X12_lays_68 n I A J t x1 A322 v322_2 v322_3) 110 ((q336_X12_lays_68 n I A J t x1 A322 v322_2 v322_3)).toNatClampNeg ((qA528_X12_lays_68 n I A J t x1 A322 v322_2 v322_3) 114 ((((6 : Int32) * v322_3) + (q492_X12_lays_68 n I A J t x1 A322 v322_2 v322_3))).toNatClampNeg)
def qA566_X12_lays_68 (n : Nat) (I : Nat → Nat → Int32) (A : Nat → Nat → Int32) (J : Nat → Nat → Int64) (t : Bool × Bool) (x1 : Int32) (A322 : Nat → Nat → Int32) (v322_2 : Int32) (v322_3 : Int32) : Nat → Nat → Int32 := cw_u (qA547_X12_lays_68 n I A J t x1 A322 v322_2 v322_3) 111 ((q336_X12_lays_68 n I A J t x1 A322 v322_2 v322_3)).toNatClampNeg ((qA547_X12_lays_68 n I A J t x1 A322 v322_2 v322_3) 116 ((((6 : Int32) * v322_3) + (q492_X12_lays_68 n I A J t x1 A322 v322_2 v322_3))).toNatClampNeg)
def qA585_X12_lays_68 (n : Nat) (I : Nat → Nat → Int32) (A : Nat → Nat → Int32) (J : Nat → Nat → Int64) (t : Bool × Bool) (x1 : Int32) (A322 : Nat → Nat → Int32) (v322_2 : Int32) (v322_3 : Int32) : Nat → Nat → Int32 := cw_u (qA566_X12_lays_68 n I A J t x1 A322 v322_2 v322_3) 112 ((q336_X12_lays_68 n I A J t x1 A322 v322_2 v322_3)).toNatClampNeg ((qA566_X12_lays_68 n I A J t x1 A322 v322_2 v322_3) 115 ((((6 : Int32) * v322_3) + (q492_X12_lays_68 n I A J t x1 A322 v322_2 v322_3))).toNatClampNeg)
def qAm497_X12_lays_68 (n : Nat) (I : Nat → Nat → Int32) (A : Nat → Nat → Int32) (J : Nat → Nat → Int64) (t : Bool × Bool) (x1 : Int32) (A322 : Nat → Nat → Int32) (v322_2 : Int32) (v322_3 : Int32) : Nat → Nat → Int32 := if (q492_X12_lays_68 n I A J t x1 A322 v322_2 v322_3) = (-1) then (qAw354_X12_lays_68 n I A J t x1 A322 v322_2 v322_3) else (qA585_X12_lays_68 n I A J t x1 A322 v322_2 v322_3)
def ql2m497_X12_lays_68 (n : Nat) (I : Nat → Nat → Int32) (A : Nat → Nat → Int32) (J : Nat → Nat → Int64) (t : Bool × Bool) (x1 : Int32) (A322 : Nat → Nat → Int32) (v322_2 : Int32) (v322_3 : Int32) : Int32 := if (q492_X12_lays_68 n I A J t x1 A322 v322_2 v322_3) = (-1) then v322_2 else (q509_X12_lays_68 n I A J t x1 A322 v322_2 v322_3)
def q586_X12_lays_68 (n : Nat) (I : Nat → Nat → Int32) (A : Nat → Nat → Int32) (J : Nat → Nat → Int64) (t : Bool × Bool) (x1 : Int32) (A322 : Nat → Nat → Int32) (v322_2 : Int32) (v322_3 : Int32) : Int32 := v322_3 + 1
def lp_X12_lays_68_322 (n : Nat) (I : Nat → Nat → Int32) (A : Nat → Nat → Int32) (J : Nat → Nat → Int64) (t : Bool × Bool) (x1 : Int32) : Nat → (Nat → Nat → Int32) → (Int32) → (Int32) → (Nat → Nat → Int32) × Int32 × Int32
  | 0, A322, v322_2, v322_3 => (A322, v322_2, v322_3)
  | f + 1, A322, v322_2, v322_3 => if (I 68 43) ≤ v322_3 then (A322, v322_2, v322_3) else lp_X12_lays_68_322 n I A J t x1 f (qAm497_X12_lays_68 n I A J t x1 A322 v322_2 v322_3) (ql2m497_X12_lays_68 n I A J t x1 A322 v322_2 v322_3) (q586_X12_lays_68 n I A J t x1 A322 v322_2 v322_3)
def lb_X12_lays_68_322 (n : Nat) (I : Nat → Nat → Int32) (A : Nat → Nat → Int32) (J : Nat → Nat → Int64) (t : Bool × Bool) (x1 : Int32) : Nat → (Nat → Nat → Int32) → (Int32) → (Int32) → Prop
  | 0, _, _, _ => False
  | f + 1, A322, v322_2, v322_3 => (¬ (I 68 43) ≤ v322_3 → vp_in (q336_X12_lays_68 n I A J t x1 A322 v322_2 v322_3) 240 ∧ lb_X12_lays_68_354 n I A J t x1 A322 v322_2 v322_3 n (qA345_X12_lays_68 n I A J t x1 A322 v322_2 v322_3) (q352_X12_lays_68 n I A J t x1 A322 v322_2 v322_3) ∧ vp_in (q336_X12_lays_68 n I A J t x1 A322 v322_2 v322_3) 240 ∧ (¬ (q492_X12_lays_68 n I A J t x1 A322 v322_2 v322_3) = (-1) → vp_in (((6 : Int32) * v322_3) + (q492_X12_lays_68 n I A J t x1 A322 v322_2 v322_3)) 60 ∧ vp_in (q492_X12_lays_68 n I A J t x1 A322 v322_2 v322_3) 6 ∧ vp_in (((6 : Int32) * v322_3) + (q492_X12_lays_68 n I A J t x1 A322 v322_2 v322_3)) 60 ∧ vp_in (q336_X12_lays_68 n I A J t x1 A322 v322_2 v322_3) 240 ∧ vp_in (((6 : Int32) * v322_3) + (q492_X12_lays_68 n I A J t x1 A322 v322_2 v322_3)) 60 ∧ vp_in (q336_X12_lays_68 n I A J t x1 A322 v322_2 v322_3) 240 ∧ vp_in (((6 : Int32) * v322_3) + (q492_X12_lays_68 n I A J t x1 A322 v322_2 v322_3)) 60 ∧ vp_in (q336_X12_lays_68 n I A J t x1 A322 v322_2 v322_3) 240) ∧ lb_X12_lays_68_322 n I A J t x1 f (qAm497_X12_lays_68 n I A J t x1 A322 v322_2 v322_3) (ql2m497_X12_lays_68 n I A J t x1 A322 v322_2 v322_3) (q586_X12_lays_68 n I A J t x1 A322 v322_2 v322_3))
def qAw322_X12_lays_68 (n : Nat) (I : Nat → Nat → Int32) (A : Nat → Nat → Int32) (J : Nat → Nat → Int64) (t : Bool × Bool) (x1 : Int32) : Nat → Nat → Int32 := (lp_X12_lays_68_322 n I A J t x1 n (qAw301_X12_lays_68 n I A J t x1) 0 0).1
def q2w322_X12_lays_68 (n : Nat) (I : Nat → Nat → Int32) (A : Nat → Nat → Int32) (J : Nat → Nat → Int64) (t : Bool × Bool) (x1 : Int32) : Int32 := (lp_X12_lays_68_322 n I A J t x1 n (qAw301_X12_lays_68 n I A J t x1) 0 0).2.1
def q3w322_X12_lays_68 (n : Nat) (I : Nat → Nat → Int32) (A : Nat → Nat → Int32) (J : Nat → Nat → Int64) (t : Bool × Bool) (x1 : Int32) : Int32 := (lp_X12_lays_68_322 n I A J t x1 n (qAw301_X12_lays_68 n I A J t x1) 0 0).2.2
def pb_X12_lays_68 (n : Nat) (I : Nat → Nat → Int32) (A : Nat → Nat → Int32) (J : Nat → Nat → Int64) (t : Bool × Bool) (x1 : Int32) : Prop := lb_X12_lays_68_2 n I A J t x1 n A 0 ∧ lb_X12_lays_68_51 n I A J t x1 n (qAw2_X12_lays_68 n I A J t x1) (q50_X12_lays_68 n I A J t x1) ∧ vp_in 0 704 ∧ vp_in x1 24 ∧ lb_X12_lays_68_301 n I A J t x1 n (qA296_X12_lays_68 n I A J t x1) 0 ∧ lb_X12_lays_68_322 n I A J t x1 n (qAw301_X12_lays_68 n I A J t x1) 0 0
def pA_X12_lays_68 (n : Nat) (I : Nat → Nat → Int32) (A : Nat → Nat → Int32) (J : Nat → Nat → Int64) (t : Bool × Bool) (x1 : Int32) : Nat → Nat → Int32 := (qAw322_X12_lays_68 n I A J t x1)
set_option maxRecDepth 100000 in
set_option maxHeartbeats 4000000 in
theorem lt_X12_lays_68_2 (g : cw_G) (n : Nat) (I : Nat → Nat → Int32) (A : Nat → Nat → Int32) (J : Nat → Nat → Int64) (t : Bool × Bool) (x1 : Int32) {Q : Option Value → cw_H → Prop} : ∀ (f : Nat) (A2 : Nat → Nat → Int32) (v2_2 : Int32) (w0 : Nat → Nat → Int32) (w1 : Int32), lb_X12_lays_68_2 n I A J t x1 f A2 v2_2 → (lp_X12_lays_68_2 n I A J t x1 f A2 v2_2).1 = w0 → (lp_X12_lays_68_2 n I A J t x1 f A2 v2_2).2 = w1 → Ev g mX12_lays 0 0 44 [some (.ref (cw_z g + 68)), some (.int x1), some (.int w1), none, none, none, none, none, none] [] (hp g I w0 J t) Q → Ev g mX12_lays 0 0 2 [some (.ref (cw_z g + 68)), some (.int x1), some (.int v2_2), none, none, none, none, none, none] [] (hp g I A2 J t) Q := by
  intro f
  induction f with
  | zero =>
    intro A2 v2_2 w0 w1 hb
    exact hb.elim
  | succ f ih =>
    intro A2 v2_2 w0 w1 hb h0 h1 hE
    rw [lb_X12_lays_68_2] at hb
    rw [lp_X12_lays_68_2] at h0 h1
    refine ev_iload_n (pc := 2) dX12_lays_2 rfl ?_
    refine ev_bipush (pc := 3) (v := 64) dX12_lays_3 (by decide) ?_
    have hF_5 := hb
    refine ev_icmp_ge (pc := 5) (tgt := 44) dX12_lays_5 (by decide) (fun c_5 => ?_) (fun c_5 => ?_)
    · try simp only [if_pos c_5] at h0
      try simp only [if_pos c_5] at h1
      subst h0
      subst h1
      exact ev_loc hE cw_le0
    · have hb := hF_5 c_5
      try simp only [if_neg c_5] at h0
      try simp only [if_neg c_5] at h1
      refine ev_aload_n (pc := 8) dX12_lays_8 rfl ?_
      refine tv_getr (pc := 9) (d := 118) dX12_lays_9 fl_X12_167 (by decide) rfl rfl ?_
      refine ev_bipush (pc := 12) (v := 64) dX12_lays_12 (by decide) ?_
      refine ev_aload_n (pc := 14) dX12_lays_14 rfl ?_
      refine tv_geti (pc := 15) dX12_lays_15 fl_X12_295 (by decide) rfl rfl ?_
      refine ev_imul (pc := 18) dX12_lays_18 ?_
      refine ev_iload_n (pc := 19) dX12_lays_19 rfl ?_
      refine ev_iadd (pc := 20) dX12_lays_20 ?_
      refine ev_iconst (pc := 21) (v := 0) dX12_lays_21 (by decide) ?_
      refine tw_iast (pc := 22) (A2 := (qA22_X12_lays_68 n I A J t x1 A2 v2_2)) dX12_lays_22 (by decide) rfl hb.1 rfl ?_
      replace hb := hb.2
      refine ev_aload_n (pc := 23) dX12_lays_23 rfl ?_
      refine tv_getr (pc := 24) (d := 119) dX12_lays_24 fl_X12_170 (by decide) rfl rfl ?_
      refine ev_bipush (pc := 27) (v := 64) dX12_lays_27 (by decide) ?_
      refine ev_aload_n (pc := 29) dX12_lays_29 rfl ?_
      refine tv_geti (pc := 30) dX12_lays_30 fl_X12_295 (by decide) rfl rfl ?_
      refine ev_imul (pc := 33) dX12_lays_33 ?_
      refine ev_iload_n (pc := 34) dX12_lays_34 rfl ?_
      refine ev_iadd (pc := 35) dX12_lays_35 ?_
      refine ev_iconst (pc := 36) (v := 0) dX12_lays_36 (by decide) ?_
      refine tw_iast (pc := 37) (A2 := (qA37_X12_lays_68 n I A J t x1 A2 v2_2)) dX12_lays_37 (by decide) rfl hb.1 rfl ?_
      replace hb := hb.2
      refine ev_iinc_2 (pc := 38) (v := (q38_X12_lays_68 n I A J t x1 A2 v2_2)) dX12_lays_38 (by decide) rfl rfl ?_
      refine ev_goto (pc := 41) (tgt := 2) dX12_lays_41 (by decide) ?_
      exact ev_loc (ih (qA37_X12_lays_68 n I A J t x1 A2 v2_2) (q38_X12_lays_68 n I A J t x1 A2 v2_2) w0 w1 hb h0 h1 hE) cw_le0

set_option maxRecDepth 100000 in
set_option maxHeartbeats 4000000 in
theorem lt_X12_lays_68_114 (g : cw_G) (n : Nat) (I : Nat → Nat → Int32) (A : Nat → Nat → Int32) (J : Nat → Nat → Int64) (t : Bool × Bool) (x1 : Int32) (A51 : Nat → Nat → Int32) (v51_2 : Int32) (A57 : Nat → Nat → Int32) (v57_3 : Int32) {Q : Option Value → cw_H → Prop} : ∀ (f : Nat) (A114 : Nat → Nat → Int32) (v114_5 : Int32) (w0 : Nat → Nat → Int32) (w1 : Int32), lb_X12_lays_68_114 n I A J t x1 A51 v51_2 A57 v57_3 f A114 v114_5 → (lp_X12_lays_68_114 n I A J t x1 A51 v51_2 A57 v57_3 f A114 v114_5).1 = w0 → (lp_X12_lays_68_114 n I A J t x1 A51 v51_2 A57 v57_3 f A114 v114_5).2 = w1 → Ev g mX12_lays 0 0 273 [some (.ref (cw_z g + 68)), some (.int x1), some (.int v51_2), some (.int v57_3), some (.int (q69_X12_lays_68 n I A J t x1 A51 v51_2 A57 v57_3)), some (.int w1), none, none, none] [] (hp g I w0 J t) Q → Ev g mX12_lays 0 0 114 [some (.ref (cw_z g + 68)), some (.int x1), some (.int v51_2), some (.int v57_3), some (.int (q69_X12_lays_68 n I A J t x1 A51 v51_2 A57 v57_3)), some (.int v114_5), none, none, none] [] (hp g I A114 J t) Q := by
  intro f
  induction f with
  | zero =>
    intro A114 v114_5 w0 w1 hb
    exact hb.elim
  | succ f ih =>
    intro A114 v114_5 w0 w1 hb h0 h1 hE
    rw [lb_X12_lays_68_114] at hb
    rw [lp_X12_lays_68_114] at h0 h1
    refine ev_iload (pc := 114) dX12_lays_114 rfl ?_
    refine ev_aload_n (pc := 116) dX12_lays_116 rfl ?_
    refine tv_geti (pc := 117) dX12_lays_117 fl_X12_289 (by decide) rfl rfl ?_
    have hF_120 := hb
    refine ev_icmp_ge (pc := 120) (tgt := 273) dX12_lays_120 (by decide) (fun c_120 => ?_) (fun c_120 => ?_)
    · try simp only [if_pos c_120] at h0
      try simp only [if_pos c_120] at h1
      subst h0
      subst h1
      exact ev_loc hE cw_le0
    · have hb := hF_120 c_120
      try simp only [if_neg c_120] at h0
      try simp only [if_neg c_120] at h1
      refine ev_iload_n (pc := 123) dX12_lays_123 rfl ?_
      refine ev_iload (pc := 124) dX12_lays_124 rfl ?_
      refine ev_ishr (pc := 126) dX12_lays_126 ?_
      refine ev_iconst (pc := 127) (v := 1) dX12_lays_127 (by decide) ?_
      refine ev_iand (pc := 128) dX12_lays_128 ?_
      refine ev_iconst (pc := 129) (v := 1) dX12_lays_129 (by decide) ?_
      obtain ⟨hF_130, hb⟩ := hb
      refine ev_cut (pj := 267) (Lj := [some (.ref (cw_z g + 68)), some (.int x1), some (.int v51_2), some (.int v57_3), some (.int (q69_X12_lays_68 n I A J t x1 A51 v51_2 A57 v57_3)), some (.int v114_5), none, none, none]) (stj := []) (σj := hp g I (qAm130_X12_lays_68 n I A J t x1 A51 v51_2 A57 v57_3 A114 v114_5) J t) ?_ (fun hJ_130 => ?_)
      rotate_left
      · refine ev_icmp_eq (pc := 130) (tgt := 267) dX12_lays_130 (by decide) (fun c_130 => ?_) (fun c_130 => ?_)
        · simp only [qAm130_X12_lays_68, if_pos c_130] at hJ_130
          exact ev_loc hJ_130 cw_le0
        · have hb := hF_130 c_130
          refine ev_aload_n (pc := 133) dX12_lays_133 rfl ?_
          refine tv_getr (pc := 134) (d := 114) dX12_lays_134 fl_X12_155 (by decide) rfl rfl ?_
          refine ev_bipush (pc := 137) (v := 6) dX12_lays_137 (by decide) ?_
          refine ev_iload_n (pc := 139) dX12_lays_139 rfl ?_
          refine ev_imul (pc := 140) dX12_lays_140 ?_
          refine ev_iload (pc := 141) dX12_lays_141 rfl ?_
          refine ev_iadd (pc := 143) dX12_lays_143 ?_
          refine ev_iald (pc := 144) dX12_lays_144 (by decide) rfl hb.1 ?_
          replace hb := hb.2
          refine ev_iconst (pc := 145) (v := (-1)) dX12_lays_145 (by decide) ?_
          have hT_146 := hb
          refine ev_cut (pj := 267) (Lj := [some (.ref (cw_z g + 68)), some (.int x1), some (.int v51_2), some (.int v57_3), some (.int (q69_X12_lays_68 n I A J t x1 A51 v51_2 A57 v57_3)), some (.int v114_5), none, none, none]) (stj := []) (σj := hp g I (qAm146_X12_lays_68 n I A J t x1 A51 v51_2 A57 v57_3 A114 v114_5) J t) ?_ (fun hJ_146 => ?_)
          rotate_left
          · refine ev_icmp_ne (pc := 146) (tgt := 152) dX12_lays_146 (by decide) (fun c_146 => ?_) (fun c_146 => ?_)
            · have hb := hT_146 c_146
              refine ev_bipush (pc := 152) (v := 64) dX12_lays_152 (by decide) ?_
              refine ev_iload_n (pc := 154) dX12_lays_154 rfl ?_
              refine ev_iconst (pc := 155) (v := 1) dX12_lays_155 (by decide) ?_
              refine ev_iadd (pc := 156) dX12_lays_156 ?_
              refine ev_imul (pc := 157) dX12_lays_157 ?_
              refine ev_iload_n (pc := 158) dX12_lays_158 rfl ?_
              refine ev_iconst (pc := 159) (v := 1) dX12_lays_159 (by decide) ?_
              refine ev_iload (pc := 160) dX12_lays_160 rfl ?_
              refine ev_ishl (pc := 162) dX12_lays_162 ?_
              refine ev_ior (pc := 163) dX12_lays_163 ?_
              refine ev_iadd (pc := 164) dX12_lays_164 ?_
              refine ev_is (y := (q165_X12_lays_68 n I A J t x1 A51 v51_2 A57 v57_3 A114 v114_5)) rfl ?_
              refine ev_istore_6 (pc := 165) dX12_lays_165 (by decide) rfl ?_
              refine ev_aload_n (pc := 167) dX12_lays_167 rfl ?_
              refine tv_getr (pc := 168) (d := 118) dX12_lays_168 fl_X12_167 (by decide) rfl rfl ?_
              refine ev_iload (pc := 171) dX12_lays_171 rfl ?_
              refine ev_iald (pc := 173) dX12_lays_173 (by decide) rfl hb.1 ?_
              replace hb := hb.2
              refine ev_aload_n (pc := 174) dX12_lays_174 rfl ?_
              refine tv_getr (pc := 175) (d := 91) dX12_lays_175 fl_X12_86 (by decide) rfl rfl ?_
              refine ev_aload_n (pc := 178) dX12_lays_178 rfl ?_
              refine tv_getr (pc := 179) (d := 94) dX12_lays_179 fl_X12_95 (by decide) rfl rfl ?_
              refine ev_iload_n (pc := 182) dX12_lays_182 rfl ?_
              refine ev_iald (pc := 183) dX12_lays_183 (by decide) rfl hb.1 ?_
              replace hb := hb.2
              refine ev_iald (pc := 184) dX12_lays_184 (by decide) rfl hb.1 ?_
              replace hb := hb.2
              refine ev_iadd (pc := 185) dX12_lays_185 ?_
              refine ev_is (y := (q186_X12_lays_68 n I A J t x1 A51 v51_2 A57 v57_3 A114 v114_5)) rfl ?_
              refine ev_istore_7 (pc := 186) dX12_lays_186 (by decide) rfl ?_
              refine ev_aload_n (pc := 188) dX12_lays_188 rfl ?_
              refine tv_getr (pc := 189) (d := 119) dX12_lays_189 fl_X12_170 (by decide) rfl rfl ?_
              refine ev_iload (pc := 192) dX12_lays_192 rfl ?_
              refine ev_iald (pc := 194) dX12_lays_194 (by decide) rfl hb.1 ?_
              replace hb := hb.2
              refine ev_aload_n (pc := 195) dX12_lays_195 rfl ?_
              refine tv_getr (pc := 196) (d := 115) dX12_lays_196 fl_X12_158 (by decide) rfl rfl ?_
              refine ev_bipush (pc := 199) (v := 6) dX12_lays_199 (by decide) ?_
              refine ev_iload_n (pc := 201) dX12_lays_201 rfl ?_
              refine ev_imul (pc := 202) dX12_lays_202 ?_
              refine ev_iload (pc := 203) dX12_lays_203 rfl ?_
              refine ev_iadd (pc := 205) dX12_lays_205 ?_
              refine ev_iald (pc := 206) dX12_lays_206 (by decide) rfl hb.1 ?_
              replace hb := hb.2
              refine ev_iadd (pc := 207) dX12_lays_207 ?_
              refine ev_is (y := (q208_X12_lays_68 n I A J t x1 A51 v51_2 A57 v57_3 A114 v114_5)) rfl ?_
              refine ev_istore_8 (pc := 208) dX12_lays_208 (by decide) rfl ?_
              refine ev_iload (pc := 210) dX12_lays_210 rfl ?_
              refine ev_aload_n (pc := 212) dX12_lays_212 rfl ?_
              refine tv_getr (pc := 213) (d := 118) dX12_lays_213 fl_X12_167 (by decide) rfl rfl ?_
              refine ev_iload (pc := 216) dX12_lays_216 rfl ?_
              refine ev_iald (pc := 218) dX12_lays_218 (by decide) rfl hb.1 ?_
              replace hb := hb.2
              have hF_219 := hb
              refine ev_cut (pj := 267) (Lj := [some (.ref (cw_z g + 68)), some (.int x1), some (.int v51_2), some (.int v57_3), some (.int (q69_X12_lays_68 n I A J t x1 A51 v51_2 A57 v57_3)), some (.int v114_5), some (.int (q165_X12_lays_68 n I A J t x1 A51 v51_2 A57 v57_3 A114 v114_5)), some (.int (q186_X12_lays_68 n I A J t x1 A51 v51_2 A57 v57_3 A114 v114_5)), some (.int (q208_X12_lays_68 n I A J t x1 A51 v51_2 A57 v57_3 A114 v114_5))]) (stj := []) (σj := hp g I (qAm219_X12_lays_68 n I A J t x1 A51 v51_2 A57 v57_3 A114 v114_5) J t) ?_ (fun hJ_219 => ?_)
              rotate_left
              · refine ev_icmp_lt (pc := 219) (tgt := 267) dX12_lays_219 (by decide) (fun c_219 => ?_) (fun c_219 => ?_)
                · simp only [qAm219_X12_lays_68, if_pos c_219] at hJ_219
                  exact ev_loc hJ_219 cw_le0
                · have hb := hF_219 c_219
                  refine ev_iload (pc := 222) dX12_lays_222 rfl ?_
                  refine ev_aload_n (pc := 224) dX12_lays_224 rfl ?_
                  refine tv_getr (pc := 225) (d := 118) dX12_lays_225 fl_X12_167 (by decide) rfl rfl ?_
                  refine ev_iload (pc := 228) dX12_lays_228 rfl ?_
                  refine ev_iald (pc := 230) dX12_lays_230 (by decide) rfl hb.1 ?_
                  replace hb := hb.2
                  obtain ⟨hT_231, hF_231⟩ := hb
                  refine ev_cut (pj := 267) (Lj := [some (.ref (cw_z g + 68)), some (.int x1), some (.int v51_2), some (.int v57_3), some (.int (q69_X12_lays_68 n I A J t x1 A51 v51_2 A57 v57_3)), some (.int v114_5), some (.int (q165_X12_lays_68 n I A J t x1 A51 v51_2 A57 v57_3 A114 v114_5)), some (.int (q186_X12_lays_68 n I A J t x1 A51 v51_2 A57 v57_3 A114 v114_5)), some (.int (q208_X12_lays_68 n I A J t x1 A51 v51_2 A57 v57_3 A114 v114_5))]) (stj := []) (σj := hp g I (qAm231_X12_lays_68 n I A J t x1 A51 v51_2 A57 v57_3 A114 v114_5) J t) ?_ (fun hJ_231 => ?_)
                  rotate_left
                  · refine ev_icmp_ne (pc := 231) (tgt := 249) dX12_lays_231 (by decide) (fun c_231 => ?_) (fun c_231 => ?_)
                    · have hb := hT_231 c_231
                      refine ev_aload_n (pc := 249) dX12_lays_249 rfl ?_
                      refine tv_getr (pc := 250) (d := 118) dX12_lays_250 fl_X12_167 (by decide) rfl rfl ?_
                      refine ev_iload (pc := 253) dX12_lays_253 rfl ?_
                      refine ev_iload (pc := 255) dX12_lays_255 rfl ?_
                      refine tw_iast (pc := 257) (A2 := (qA257_X12_lays_68 n I A J t x1 A51 v51_2 A57 v57_3 A114 v114_5)) dX12_lays_257 (by decide) rfl hb.1 rfl ?_
                      replace hb := hb.2
                      refine ev_aload_n (pc := 258) dX12_lays_258 rfl ?_
                      refine tv_getr (pc := 259) (d := 119) dX12_lays_259 fl_X12_170 (by decide) rfl rfl ?_
                      refine ev_iload (pc := 262) dX12_lays_262 rfl ?_
                      refine ev_iload (pc := 264) dX12_lays_264 rfl ?_
                      refine tw_iast (pc := 266) (A2 := (qA266_X12_lays_68 n I A J t x1 A51 v51_2 A57 v57_3 A114 v114_5)) dX12_lays_266 (by decide) rfl hb rfl ?_
                      simp only [qAm231_X12_lays_68, if_neg c_231] at hJ_231
                      exact ev_loc hJ_231 cw_le0
                    · have hb := hF_231 c_231
                      refine ev_iload (pc := 234) dX12_lays_234 rfl ?_
                      refine ev_aload_n (pc := 236) dX12_lays_236 rfl ?_
                      refine tv_getr (pc := 237) (d := 119) dX12_lays_237 fl_X12_170 (by decide) rfl rfl ?_
                      refine ev_iload (pc := 240) dX12_lays_240 rfl ?_
                      refine ev_iald (pc := 242) dX12_lays_242 (by decide) rfl hb.1 ?_
                      replace hb := hb.2
                      have hT_243 := hb
                      refine ev_cut (pj := 267) (Lj := [some (.ref (cw_z g + 68)), some (.int x1), some (.int v51_2), some (.int v57_3), some (.int (q69_X12_lays_68 n I A J t x1 A51 v51_2 A57 v57_3)), some (.int v114_5), some (.int (q165_X12_lays_68 n I A J t x1 A51 v51_2 A57 v57_3 A114 v114_5)), some (.int (q186_X12_lays_68 n I A J t x1 A51 v51_2 A57 v57_3 A114 v114_5)), some (.int (q208_X12_lays_68 n I A J t x1 A51 v51_2 A57 v57_3 A114 v114_5))]) (stj := []) (σj := hp g I (qAm243_X12_lays_68 n I A J t x1 A51 v51_2 A57 v57_3 A114 v114_5) J t) ?_ (fun hJ_243 => ?_)
                      rotate_left
                      · refine ev_icmp_gt (pc := 243) (tgt := 249) dX12_lays_243 (by decide) (fun c_243 => ?_) (fun c_243 => ?_)
                        · have hb := hT_243 c_243
                          refine ev_aload_n (pc := 249) dX12_lays_249 rfl ?_
                          refine tv_getr (pc := 250) (d := 118) dX12_lays_250 fl_X12_167 (by decide) rfl rfl ?_
                          refine ev_iload (pc := 253) dX12_lays_253 rfl ?_
                          refine ev_iload (pc := 255) dX12_lays_255 rfl ?_
                          refine tw_iast (pc := 257) (A2 := (qA257_X12_lays_68 n I A J t x1 A51 v51_2 A57 v57_3 A114 v114_5)) dX12_lays_257 (by decide) rfl hb.1 rfl ?_
                          replace hb := hb.2
                          refine ev_aload_n (pc := 258) dX12_lays_258 rfl ?_
                          refine tv_getr (pc := 259) (d := 119) dX12_lays_259 fl_X12_170 (by decide) rfl rfl ?_
                          refine ev_iload (pc := 262) dX12_lays_262 rfl ?_
                          refine ev_iload (pc := 264) dX12_lays_264 rfl ?_
                          refine tw_iast (pc := 266) (A2 := (qA266_X12_lays_68 n I A J t x1 A51 v51_2 A57 v57_3 A114 v114_5)) dX12_lays_266 (by decide) rfl hb rfl ?_
                          simp only [qAm243_X12_lays_68, if_pos c_243] at hJ_243
                          exact ev_loc hJ_243 cw_le0
                        · refine ev_goto (pc := 246) (tgt := 267) dX12_lays_246 (by decide) ?_
                          simp only [qAm243_X12_lays_68, if_neg c_243] at hJ_243
                          exact ev_loc hJ_243 cw_le0
                      simp only [qAm231_X12_lays_68, if_pos c_231] at hJ_231
                      exact ev_loc hJ_231 cw_le0
                  simp only [qAm219_X12_lays_68, if_neg c_219] at hJ_219
                  exact ev_loc hJ_219 cw_le0
              simp only [qAm146_X12_lays_68, if_neg c_146] at hJ_146
              exact ev_loc hJ_146 (cw_leS (cw_leS (cw_leS (cw_leS (cw_leS (cw_leS (cw_leN (cw_leN (cw_leN cw_le0)))))))))
            · refine ev_goto (pc := 149) (tgt := 267) dX12_lays_149 (by decide) ?_
              simp only [qAm146_X12_lays_68, if_pos c_146] at hJ_146
              exact ev_loc hJ_146 cw_le0
          simp only [qAm130_X12_lays_68, if_neg c_130] at hJ_130
          exact ev_loc hJ_130 cw_le0
      refine ev_iinc_5 (pc := 267) (v := (q267_X12_lays_68 n I A J t x1 A51 v51_2 A57 v57_3 A114 v114_5)) dX12_lays_267 (by decide) rfl rfl ?_
      refine ev_goto (pc := 270) (tgt := 114) dX12_lays_270 (by decide) ?_
      exact ev_loc (ih (qAm130_X12_lays_68 n I A J t x1 A51 v51_2 A57 v57_3 A114 v114_5) (q267_X12_lays_68 n I A J t x1 A51 v51_2 A57 v57_3 A114 v114_5) w0 w1 hb h0 h1 hE) cw_le0

set_option maxRecDepth 100000 in
set_option maxHeartbeats 4000000 in
theorem lt_X12_lays_68_57 (g : cw_G) (n : Nat) (I : Nat → Nat → Int32) (A : Nat → Nat → Int32) (J : Nat → Nat → Int64) (t : Bool × Bool) (x1 : Int32) (A51 : Nat → Nat → Int32) (v51_2 : Int32) {Q : Option Value → cw_H → Prop} : ∀ (f : Nat) (A57 : Nat → Nat → Int32) (v57_3 : Int32) (w0 : Nat → Nat → Int32) (w1 : Int32), lb_X12_lays_68_57 n I A J t x1 A51 v51_2 f A57 v57_3 → (lp_X12_lays_68_57 n I A J t x1 A51 v51_2 f A57 v57_3).1 = w0 → (lp_X12_lays_68_57 n I A J t x1 A51 v51_2 f A57 v57_3).2 = w1 → Ev g mX12_lays 0 0 279 [some (.ref (cw_z g + 68)), some (.int x1), some (.int v51_2), some (.int w1), none, none, none, none, none] [] (hp g I w0 J t) Q → Ev g mX12_lays 0 0 57 [some (.ref (cw_z g + 68)), some (.int x1), some (.int v51_2), some (.int v57_3), none, none, none, none, none] [] (hp g I A57 J t) Q := by
  intro f
  induction f with
  | zero =>
    intro A57 v57_3 w0 w1 hb
    exact hb.elim
  | succ f ih =>
    intro A57 v57_3 w0 w1 hb h0 h1 hE
    rw [lb_X12_lays_68_57] at hb
    rw [lp_X12_lays_68_57] at h0 h1
    refine ev_iload_n (pc := 57) dX12_lays_57 rfl ?_
    refine ev_bipush (pc := 58) (v := 64) dX12_lays_58 (by decide) ?_
    have hF_60 := hb
    refine ev_icmp_ge (pc := 60) (tgt := 279) dX12_lays_60 (by decide) (fun c_60 => ?_) (fun c_60 => ?_)
    · try simp only [if_pos c_60] at h0
      try simp only [if_pos c_60] at h1
      subst h0
      subst h1
      exact ev_loc hE cw_le0
    · have hb := hF_60 c_60
      try simp only [if_neg c_60] at h0
      try simp only [if_neg c_60] at h1
      refine ev_bipush (pc := 63) (v := 64) dX12_lays_63 (by decide) ?_
      refine ev_iload_n (pc := 65) dX12_lays_65 rfl ?_
      refine ev_imul (pc := 66) dX12_lays_66 ?_
      refine ev_iload_n (pc := 67) dX12_lays_67 rfl ?_
      refine ev_iadd (pc := 68) dX12_lays_68 ?_
      refine ev_is (y := (q69_X12_lays_68 n I A J t x1 A51 v51_2 A57 v57_3)) rfl ?_
      refine ev_istore_4 (pc := 69) dX12_lays_69 (by decide) rfl ?_
      refine ev_aload_n (pc := 71) dX12_lays_71 rfl ?_
      refine tv_getr (pc := 72) (d := 118) dX12_lays_72 fl_X12_167 (by decide) rfl rfl ?_
      refine ev_iload (pc := 75) dX12_lays_75 rfl ?_
      refine ev_aload_n (pc := 77) dX12_lays_77 rfl ?_
      refine tv_getr (pc := 78) (d := 118) dX12_lays_78 fl_X12_167 (by decide) rfl rfl ?_
      refine ev_bipush (pc := 81) (v := 64) dX12_lays_81 (by decide) ?_
      refine ev_iload_n (pc := 83) dX12_lays_83 rfl ?_
      refine ev_iconst (pc := 84) (v := 1) dX12_lays_84 (by decide) ?_
      refine ev_iadd (pc := 85) dX12_lays_85 ?_
      refine ev_imul (pc := 86) dX12_lays_86 ?_
      refine ev_iload_n (pc := 87) dX12_lays_87 rfl ?_
      refine ev_iadd (pc := 88) dX12_lays_88 ?_
      refine ev_iald (pc := 89) dX12_lays_89 (by decide) rfl hb.1 ?_
      replace hb := hb.2
      refine tw_iast (pc := 90) (A2 := (qA90_X12_lays_68 n I A J t x1 A51 v51_2 A57 v57_3)) dX12_lays_90 (by decide) rfl hb.1 rfl ?_
      replace hb := hb.2
      refine ev_aload_n (pc := 91) dX12_lays_91 rfl ?_
      refine tv_getr (pc := 92) (d := 119) dX12_lays_92 fl_X12_170 (by decide) rfl rfl ?_
      refine ev_iload (pc := 95) dX12_lays_95 rfl ?_
      refine ev_aload_n (pc := 97) dX12_lays_97 rfl ?_
      refine tv_getr (pc := 98) (d := 119) dX12_lays_98 fl_X12_170 (by decide) rfl rfl ?_
      refine ev_bipush (pc := 101) (v := 64) dX12_lays_101 (by decide) ?_
      refine ev_iload_n (pc := 103) dX12_lays_103 rfl ?_
      refine ev_iconst (pc := 104) (v := 1) dX12_lays_104 (by decide) ?_
      refine ev_iadd (pc := 105) dX12_lays_105 ?_
      refine ev_imul (pc := 106) dX12_lays_106 ?_
      refine ev_iload_n (pc := 107) dX12_lays_107 rfl ?_
      refine ev_iadd (pc := 108) dX12_lays_108 ?_
      refine ev_iald (pc := 109) dX12_lays_109 (by decide) rfl hb.1 ?_
      replace hb := hb.2
      refine tw_iast (pc := 110) (A2 := (qA110_X12_lays_68 n I A J t x1 A51 v51_2 A57 v57_3)) dX12_lays_110 (by decide) rfl hb.1 rfl ?_
      replace hb := hb.2
      refine ev_iconst (pc := 111) (v := 0) dX12_lays_111 (by decide) ?_
      refine ev_istore_5 (pc := 112) dX12_lays_112 (by decide) rfl ?_
      refine lt_X12_lays_68_114 g n I A J t x1 A51 v51_2 A57 v57_3 n (qA110_X12_lays_68 n I A J t x1 A51 v51_2 A57 v57_3) 0 (qAw114_X12_lays_68 n I A J t x1 A51 v51_2 A57 v57_3) (q5w114_X12_lays_68 n I A J t x1 A51 v51_2 A57 v57_3) hb.1 rfl rfl ?_
      replace hb := hb.2
      refine ev_iinc_3 (pc := 273) (v := (q273_X12_lays_68 n I A J t x1 A51 v51_2 A57 v57_3)) dX12_lays_273 (by decide) rfl rfl ?_
      refine ev_goto (pc := 276) (tgt := 57) dX12_lays_276 (by decide) ?_
      exact ev_loc (ih (qAw114_X12_lays_68 n I A J t x1 A51 v51_2 A57 v57_3) (q273_X12_lays_68 n I A J t x1 A51 v51_2 A57 v57_3) w0 w1 hb h0 h1 hE) (cw_leS (cw_leS (cw_leS (cw_leS (cw_leN (cw_leN cw_le0))))))

set_option maxRecDepth 100000 in
set_option maxHeartbeats 4000000 in
theorem lt_X12_lays_68_51 (g : cw_G) (n : Nat) (I : Nat → Nat → Int32) (A : Nat → Nat → Int32) (J : Nat → Nat → Int64) (t : Bool × Bool) (x1 : Int32) {Q : Option Value → cw_H → Prop} : ∀ (f : Nat) (A51 : Nat → Nat → Int32) (v51_2 : Int32) (w0 : Nat → Nat → Int32) (w1 : Int32), lb_X12_lays_68_51 n I A J t x1 f A51 v51_2 → (lp_X12_lays_68_51 n I A J t x1 f A51 v51_2).1 = w0 → (lp_X12_lays_68_51 n I A J t x1 f A51 v51_2).2 = w1 → Ev g mX12_lays 0 0 285 [some (.ref (cw_z g + 68)), some (.int x1), some (.int w1), none, none, none, none, none, none] [] (hp g I w0 J t) Q → Ev g mX12_lays 0 0 51 [some (.ref (cw_z g + 68)), some (.int x1), some (.int v51_2), none, none, none, none, none, none] [] (hp g I A51 J t) Q := by
  intro f
  induction f with
  | zero =>
    intro A51 v51_2 w0 w1 hb
    exact hb.elim
  | succ f ih =>
    intro A51 v51_2 w0 w1 hb h0 h1 hE
    rw [lb_X12_lays_68_51] at hb
    rw [lp_X12_lays_68_51] at h0 h1
    refine ev_iload_n (pc := 51) dX12_lays_51 rfl ?_
    have hF_52 := hb
    refine ev_if_lt (pc := 52) (tgt := 285) dX12_lays_52 (by decide) (fun c_52 => ?_) (fun c_52 => ?_)
    · try simp only [if_pos c_52] at h0
      try simp only [if_pos c_52] at h1
      subst h0
      subst h1
      exact ev_loc hE cw_le0
    · have hb := hF_52 c_52
      try simp only [if_neg c_52] at h0
      try simp only [if_neg c_52] at h1
      refine ev_iconst (pc := 55) (v := 0) dX12_lays_55 (by decide) ?_
      refine ev_istore_3 (pc := 56) dX12_lays_56 (by decide) rfl ?_
      refine lt_X12_lays_68_57 g n I A J t x1 A51 v51_2 n A51 0 (qAw57_X12_lays_68 n I A J t x1 A51 v51_2) (q3w57_X12_lays_68 n I A J t x1 A51 v51_2) hb.1 rfl rfl ?_
      replace hb := hb.2
      refine ev_iinc_2 (pc := 279) (v := (q279_X12_lays_68 n I A J t x1 A51 v51_2)) dX12_lays_279 (by decide) rfl rfl ?_
      refine ev_goto (pc := 282) (tgt := 51) dX12_lays_282 (by decide) ?_
      exact ev_loc (ih (qAw57_X12_lays_68 n I A J t x1 A51 v51_2) (q279_X12_lays_68 n I A J t x1 A51 v51_2) w0 w1 hb h0 h1 hE) (cw_leS (cw_leS (cw_leS (cw_leN cw_le0))))

set_option maxRecDepth 100000 in
set_option maxHeartbeats 4000000 in
theorem lt_X12_lays_68_301 (g : cw_G) (n : Nat) (I : Nat → Nat → Int32) (A : Nat → Nat → Int32) (J : Nat → Nat → Int64) (t : Bool × Bool) (x1 : Int32) {Q : Option Value → cw_H → Prop} : ∀ (f : Nat) (A301 : Nat → Nat → Int32) (v301_3 : Int32) (w0 : Nat → Nat → Int32) (w1 : Int32), lb_X12_lays_68_301 n I A J t x1 f A301 v301_3 → (lp_X12_lays_68_301 n I A J t x1 f A301 v301_3).1 = w0 → (lp_X12_lays_68_301 n I A J t x1 f A301 v301_3).2 = w1 → Ev g mX12_lays 0 0 320 [some (.ref (cw_z g + 68)), some (.int x1), some (.int 0), some (.int w1), none, none, none, none, none] [] (hp g I w0 J t) Q → Ev g mX12_lays 0 0 301 [some (.ref (cw_z g + 68)), some (.int x1), some (.int 0), some (.int v301_3), none, none, none, none, none] [] (hp g I A301 J t) Q := by
  intro f
  induction f with
  | zero =>
    intro A301 v301_3 w0 w1 hb
    exact hb.elim
  | succ f ih =>
    intro A301 v301_3 w0 w1 hb h0 h1 hE
    rw [lb_X12_lays_68_301] at hb
    rw [lp_X12_lays_68_301] at h0 h1
    refine ev_iload_n (pc := 301) dX12_lays_301 rfl ?_
    refine ev_bipush (pc := 302) (v := 6) dX12_lays_302 (by decide) ?_
    have hF_304 := hb
    refine ev_icmp_ge (pc := 304) (tgt := 320) dX12_lays_304 (by decide) (fun c_304 => ?_) (fun c_304 => ?_)
    · try simp only [if_pos c_304] at h0
      try simp only [if_pos c_304] at h1
      subst h0
      subst h1
      exact ev_loc hE cw_le0
    · have hb := hF_304 c_304
      try simp only [if_neg c_304] at h0
      try simp only [if_neg c_304] at h1
      refine ev_aload_n (pc := 307) dX12_lays_307 rfl ?_
      refine tv_getr (pc := 308) (d := 117) dX12_lays_308 fl_X12_164 (by decide) rfl rfl ?_
      refine ev_iload_n (pc := 311) dX12_lays_311 rfl ?_
      refine ev_iconst (pc := 312) (v := (-1)) dX12_lays_312 (by decide) ?_
      refine tw_iast (pc := 313) (A2 := (qA313_X12_lays_68 n I A J t x1 A301 v301_3)) dX12_lays_313 (by decide) rfl hb.1 rfl ?_
      replace hb := hb.2
      refine ev_iinc_3 (pc := 314) (v := (q314_X12_lays_68 n I A J t x1 A301 v301_3)) dX12_lays_314 (by decide) rfl rfl ?_
      refine ev_goto (pc := 317) (tgt := 301) dX12_lays_317 (by decide) ?_
      exact ev_loc (ih (qA313_X12_lays_68 n I A J t x1 A301 v301_3) (q314_X12_lays_68 n I A J t x1 A301 v301_3) w0 w1 hb h0 h1 hE) cw_le0

set_option maxRecDepth 100000 in
set_option maxHeartbeats 4000000 in
theorem lt_X12_lays_68_354 (g : cw_G) (n : Nat) (I : Nat → Nat → Int32) (A : Nat → Nat → Int32) (J : Nat → Nat → Int64) (t : Bool × Bool) (x1 : Int32) (A322 : Nat → Nat → Int32) (v322_2 : Int32) (v322_3 : Int32) {Q : Option Value → cw_H → Prop} : ∀ (f : Nat) (A354 : Nat → Nat → Int32) (v354_5 : Int32) (w0 : Nat → Nat → Int32) (w1 : Int32), lb_X12_lays_68_354 n I A J t x1 A322 v322_2 v322_3 f A354 v354_5 → (lp_X12_lays_68_354 n I A J t x1 A322 v322_2 v322_3 f A354 v354_5).1 = w0 → (lp_X12_lays_68_354 n I A J t x1 A322 v322_2 v322_3 f A354 v354_5).2 = w1 → Ev g mX12_lays 0 0 485 [some (.ref (cw_z g + 68)), some (.int x1), some (.int v322_2), some (.int v322_3), some (.int (q336_X12_lays_68 n I A J t x1 A322 v322_2 v322_3)), some (.int w1), none, none, none] [] (hp g I w0 J t) Q → Ev g mX12_lays 0 0 354 [some (.ref (cw_z g + 68)), some (.int x1), some (.int v322_2), some (.int v322_3), some (.int (q336_X12_lays_68 n I A J t x1 A322 v322_2 v322_3)), some (.int v354_5), none, none, none] [] (hp g I A354 J t) Q := by
  intro f
  induction f with
  | zero =>
    intro A354 v354_5 w0 w1 hb
    exact hb.elim
  | succ f ih =>
    intro A354 v354_5 w0 w1 hb h0 h1 hE
    rw [lb_X12_lays_68_354] at hb
    rw [lp_X12_lays_68_354] at h0 h1
    refine ev_iload (pc := 354) dX12_lays_354 rfl ?_
    have hF_356 := hb
    refine ev_if_lt (pc := 356) (tgt := 485) dX12_lays_356 (by decide) (fun c_356 => ?_) (fun c_356 => ?_)
    · try simp only [if_pos c_356] at h0
      try simp only [if_pos c_356] at h1
      subst h0
      subst h1
      exact ev_loc hE cw_le0
    · have hb := hF_356 c_356
      try simp only [if_neg c_356] at h0
      try simp only [if_neg c_356] at h1
      refine ev_iload_n (pc := 359) dX12_lays_359 rfl ?_
      refine ev_iload (pc := 360) dX12_lays_360 rfl ?_
      refine ev_ishr (pc := 362) dX12_lays_362 ?_
      refine ev_iconst (pc := 363) (v := 1) dX12_lays_363 (by decide) ?_
      refine ev_iand (pc := 364) dX12_lays_364 ?_
      refine ev_iconst (pc := 365) (v := 1) dX12_lays_365 (by decide) ?_
      obtain ⟨hF_366, hb⟩ := hb
      refine ev_cut (pj := 479) (Lj := [some (.ref (cw_z g + 68)), some (.int x1), some (.int v322_2), some (.int v322_3), some (.int (q336_X12_lays_68 n I A J t x1 A322 v322_2 v322_3)), some (.int v354_5), none, none, none]) (stj := []) (σj := hp g I (qAm366_X12_lays_68 n I A J t x1 A322 v322_2 v322_3 A354 v354_5) J t) ?_ (fun hJ_366 => ?_)
      rotate_left
      · refine ev_icmp_eq (pc := 366) (tgt := 479) dX12_lays_366 (by decide) (fun c_366 => ?_) (fun c_366 => ?_)
        · simp only [qAm366_X12_lays_68, if_pos c_366] at hJ_366
          exact ev_loc hJ_366 cw_le0
        · have hb := hF_366 c_366
          refine ev_aload_n (pc := 369) dX12_lays_369 rfl ?_
          refine tv_getr (pc := 370) (d := 114) dX12_lays_370 fl_X12_155 (by decide) rfl rfl ?_
          refine ev_bipush (pc := 373) (v := 6) dX12_lays_373 (by decide) ?_
          refine ev_iload_n (pc := 375) dX12_lays_375 rfl ?_
          refine ev_imul (pc := 376) dX12_lays_376 ?_
          refine ev_iload (pc := 377) dX12_lays_377 rfl ?_
          refine ev_iadd (pc := 379) dX12_lays_379 ?_
          refine ev_iald (pc := 380) dX12_lays_380 (by decide) rfl hb.1 ?_
          replace hb := hb.2
          refine ev_iconst (pc := 381) (v := (-1)) dX12_lays_381 (by decide) ?_
          have hT_382 := hb
          refine ev_cut (pj := 479) (Lj := [some (.ref (cw_z g + 68)), some (.int x1), some (.int v322_2), some (.int v322_3), some (.int (q336_X12_lays_68 n I A J t x1 A322 v322_2 v322_3)), some (.int v354_5), none, none, none]) (stj := []) (σj := hp g I (qAm382_X12_lays_68 n I A J t x1 A322 v322_2 v322_3 A354 v354_5) J t) ?_ (fun hJ_382 => ?_)
          rotate_left
          · refine ev_icmp_ne (pc := 382) (tgt := 388) dX12_lays_382 (by decide) (fun c_382 => ?_) (fun c_382 => ?_)
            · have hb := hT_382 c_382
              refine ev_bipush (pc := 388) (v := 64) dX12_lays_388 (by decide) ?_
              refine ev_iload_n (pc := 390) dX12_lays_390 rfl ?_
              refine ev_iconst (pc := 391) (v := 1) dX12_lays_391 (by decide) ?_
              refine ev_iadd (pc := 392) dX12_lays_392 ?_
              refine ev_imul (pc := 393) dX12_lays_393 ?_
              refine ev_iload_n (pc := 394) dX12_lays_394 rfl ?_
              refine ev_iconst (pc := 395) (v := 1) dX12_lays_395 (by decide) ?_
              refine ev_iload (pc := 396) dX12_lays_396 rfl ?_
              refine ev_ishl (pc := 398) dX12_lays_398 ?_
              refine ev_ior (pc := 399) dX12_lays_399 ?_
              refine ev_iadd (pc := 400) dX12_lays_400 ?_
              refine ev_is (y := (q401_X12_lays_68 n I A J t x1 A322 v322_2 v322_3 A354 v354_5)) rfl ?_
              refine ev_istore_6 (pc := 401) dX12_lays_401 (by decide) rfl ?_
              refine ev_aload_n (pc := 403) dX12_lays_403 rfl ?_
              refine tv_getr (pc := 404) (d := 118) dX12_lays_404 fl_X12_167 (by decide) rfl rfl ?_
              refine ev_iload (pc := 407) dX12_lays_407 rfl ?_
              refine ev_iald (pc := 409) dX12_lays_409 (by decide) rfl hb.1 ?_
              replace hb := hb.2
              refine ev_aload_n (pc := 410) dX12_lays_410 rfl ?_
              refine tv_getr (pc := 411) (d := 91) dX12_lays_411 fl_X12_86 (by decide) rfl rfl ?_
              refine ev_aload_n (pc := 414) dX12_lays_414 rfl ?_
              refine tv_getr (pc := 415) (d := 94) dX12_lays_415 fl_X12_95 (by decide) rfl rfl ?_
              refine ev_iload_n (pc := 418) dX12_lays_418 rfl ?_
              refine ev_iald (pc := 419) dX12_lays_419 (by decide) rfl hb.1 ?_
              replace hb := hb.2
              refine ev_iald (pc := 420) dX12_lays_420 (by decide) rfl hb.1 ?_
              replace hb := hb.2
              refine ev_iadd (pc := 421) dX12_lays_421 ?_
              refine ev_aload_n (pc := 422) dX12_lays_422 rfl ?_
              refine tv_getr (pc := 423) (d := 118) dX12_lays_423 fl_X12_167 (by decide) rfl rfl ?_
              refine ev_bipush (pc := 426) (v := 64) dX12_lays_426 (by decide) ?_
              refine ev_iload_n (pc := 428) dX12_lays_428 rfl ?_
              refine ev_imul (pc := 429) dX12_lays_429 ?_
              refine ev_iload_n (pc := 430) dX12_lays_430 rfl ?_
              refine ev_iadd (pc := 431) dX12_lays_431 ?_
              refine ev_iald (pc := 432) dX12_lays_432 (by decide) rfl hb.1 ?_
              replace hb := hb.2
              have hF_433 := hb
              refine ev_cut (pj := 479) (Lj := [some (.ref (cw_z g + 68)), some (.int x1), some (.int v322_2), some (.int v322_3), some (.int (q336_X12_lays_68 n I A J t x1 A322 v322_2 v322_3)), some (.int v354_5), some (.int (q401_X12_lays_68 n I A J t x1 A322 v322_2 v322_3 A354 v354_5)), none, none]) (stj := []) (σj := hp g I (qAm433_X12_lays_68 n I A J t x1 A322 v322_2 v322_3 A354 v354_5) J t) ?_ (fun hJ_433 => ?_)
              rotate_left
              · refine ev_icmp_ne (pc := 433) (tgt := 479) dX12_lays_433 (by decide) (fun c_433 => ?_) (fun c_433 => ?_)
                · simp only [qAm433_X12_lays_68, if_neg c_433] at hJ_433
                  exact ev_loc hJ_433 cw_le0
                · have hb := hF_433 c_433
                  refine ev_aload_n (pc := 436) dX12_lays_436 rfl ?_
                  refine tv_getr (pc := 437) (d := 119) dX12_lays_437 fl_X12_170 (by decide) rfl rfl ?_
                  refine ev_iload (pc := 440) dX12_lays_440 rfl ?_
                  refine ev_iald (pc := 442) dX12_lays_442 (by decide) rfl hb.1 ?_
                  replace hb := hb.2
                  refine ev_aload_n (pc := 443) dX12_lays_443 rfl ?_
                  refine tv_getr (pc := 444) (d := 115) dX12_lays_444 fl_X12_158 (by decide) rfl rfl ?_
                  refine ev_bipush (pc := 447) (v := 6) dX12_lays_447 (by decide) ?_
                  refine ev_iload_n (pc := 449) dX12_lays_449 rfl ?_
                  refine ev_imul (pc := 450) dX12_lays_450 ?_
                  refine ev_iload (pc := 451) dX12_lays_451 rfl ?_
                  refine ev_iadd (pc := 453) dX12_lays_453 ?_
                  refine ev_iald (pc := 454) dX12_lays_454 (by decide) rfl hb.1 ?_
                  replace hb := hb.2
                  refine ev_iadd (pc := 455) dX12_lays_455 ?_
                  refine ev_aload_n (pc := 456) dX12_lays_456 rfl ?_
                  refine tv_getr (pc := 457) (d := 119) dX12_lays_457 fl_X12_170 (by decide) rfl rfl ?_
                  refine ev_bipush (pc := 460) (v := 64) dX12_lays_460 (by decide) ?_
                  refine ev_iload_n (pc := 462) dX12_lays_462 rfl ?_
                  refine ev_imul (pc := 463) dX12_lays_463 ?_
                  refine ev_iload_n (pc := 464) dX12_lays_464 rfl ?_
                  refine ev_iadd (pc := 465) dX12_lays_465 ?_
                  refine ev_iald (pc := 466) dX12_lays_466 (by decide) rfl hb.1 ?_
                  replace hb := hb.2
                  have hF_467 := hb
                  refine ev_cut (pj := 479) (Lj := [some (.ref (cw_z g + 68)), some (.int x1), some (.int v322_2), some (.int v322_3), some (.int (q336_X12_lays_68 n I A J t x1 A322 v322_2 v322_3)), some (.int v354_5), some (.int (q401_X12_lays_68 n I A J t x1 A322 v322_2 v322_3 A354 v354_5)), none, none]) (stj := []) (σj := hp g I (qAm467_X12_lays_68 n I A J t x1 A322 v322_2 v322_3 A354 v354_5) J t) ?_ (fun hJ_467 => ?_)
                  rotate_left
                  · refine ev_icmp_ne (pc := 467) (tgt := 479) dX12_lays_467 (by decide) (fun c_467 => ?_) (fun c_467 => ?_)
                    · simp only [qAm467_X12_lays_68, if_neg c_467] at hJ_467
                      exact ev_loc hJ_467 cw_le0
                    · have hb := hF_467 c_467
                      refine ev_aload_n (pc := 470) dX12_lays_470 rfl ?_
                      refine tv_getr (pc := 471) (d := 109) dX12_lays_471 fl_X12_140 (by decide) rfl rfl ?_
                      refine ev_iload (pc := 474) dX12_lays_474 rfl ?_
                      refine ev_iload (pc := 476) dX12_lays_476 rfl ?_
                      refine tw_iast (pc := 478) (A2 := (qA478_X12_lays_68 n I A J t x1 A322 v322_2 v322_3 A354 v354_5)) dX12_lays_478 (by decide) rfl hb rfl ?_
                      simp only [qAm467_X12_lays_68, if_pos c_467] at hJ_467
                      exact ev_loc hJ_467 cw_le0
                  simp only [qAm433_X12_lays_68, if_pos c_433] at hJ_433
                  exact ev_loc hJ_433 cw_le0
              simp only [qAm382_X12_lays_68, if_neg c_382] at hJ_382
              exact ev_loc hJ_382 (cw_leS (cw_leS (cw_leS (cw_leS (cw_leS (cw_leS (cw_leN cw_le0)))))))
            · refine ev_goto (pc := 385) (tgt := 479) dX12_lays_385 (by decide) ?_
              simp only [qAm382_X12_lays_68, if_pos c_382] at hJ_382
              exact ev_loc hJ_382 cw_le0
          simp only [qAm366_X12_lays_68, if_neg c_366] at hJ_366
          exact ev_loc hJ_366 cw_le0
      refine ev_iinc_5 (pc := 479) (v := (q479_X12_lays_68 n I A J t x1 A322 v322_2 v322_3 A354 v354_5)) dX12_lays_479 (by decide) rfl rfl ?_
      refine ev_goto (pc := 482) (tgt := 354) dX12_lays_482 (by decide) ?_
      exact ev_loc (ih (qAm366_X12_lays_68 n I A J t x1 A322 v322_2 v322_3 A354 v354_5) (q479_X12_lays_68 n I A J t x1 A322 v322_2 v322_3 A354 v354_5) w0 w1 hb h0 h1 hE) cw_le0

set_option maxRecDepth 100000 in
set_option maxHeartbeats 4000000 in
theorem lt_X12_lays_68_322 (g : cw_G) (n : Nat) (I : Nat → Nat → Int32) (A : Nat → Nat → Int32) (J : Nat → Nat → Int64) (t : Bool × Bool) (x1 : Int32) {Q : Option Value → cw_H → Prop} : ∀ (f : Nat) (A322 : Nat → Nat → Int32) (v322_2 : Int32) (v322_3 : Int32) (w0 : Nat → Nat → Int32) (w1 : Int32) (w2 : Int32), lb_X12_lays_68_322 n I A J t x1 f A322 v322_2 v322_3 → (lp_X12_lays_68_322 n I A J t x1 f A322 v322_2 v322_3).1 = w0 → (lp_X12_lays_68_322 n I A J t x1 f A322 v322_2 v322_3).2.1 = w1 → (lp_X12_lays_68_322 n I A J t x1 f A322 v322_2 v322_3).2.2 = w2 → Ev g mX12_lays 0 0 592 [some (.ref (cw_z g + 68)), some (.int x1), some (.int w1), some (.int w2), none, none, none, none, none] [] (hp g I w0 J t) Q → Ev g mX12_lays 0 0 322 [some (.ref (cw_z g + 68)), some (.int x1), some (.int v322_2), some (.int v322_3), none, none, none, none, none] [] (hp g I A322 J t) Q := by
  intro f
  induction f with
  | zero =>
    intro A322 v322_2 v322_3 w0 w1 w2 hb
    exact hb.elim
  | succ f ih =>
    intro A322 v322_2 v322_3 w0 w1 w2 hb h0 h1 h2 hE
    rw [lb_X12_lays_68_322] at hb
    rw [lp_X12_lays_68_322] at h0 h1 h2
    refine ev_iload_n (pc := 322) dX12_lays_322 rfl ?_
    refine ev_aload_n (pc := 323) dX12_lays_323 rfl ?_
    refine tv_geti (pc := 324) dX12_lays_324 fl_X12_295 (by decide) rfl rfl ?_
    have hF_327 := hb
    refine ev_icmp_ge (pc := 327) (tgt := 592) dX12_lays_327 (by decide) (fun c_327 => ?_) (fun c_327 => ?_)
    · try simp only [if_pos c_327] at h0
      try simp only [if_pos c_327] at h1
      try simp only [if_pos c_327] at h2
      subst h0
      subst h1
      subst h2
      exact ev_loc hE cw_le0
    · have hb := hF_327 c_327
      try simp only [if_neg c_327] at h0
      try simp only [if_neg c_327] at h1
      try simp only [if_neg c_327] at h2
      refine ev_bipush (pc := 330) (v := 10) dX12_lays_330 (by decide) ?_
      refine ev_iload_n (pc := 332) dX12_lays_332 rfl ?_
      refine ev_imul (pc := 333) dX12_lays_333 ?_
      refine ev_iload_n (pc := 334) dX12_lays_334 rfl ?_
      refine ev_iadd (pc := 335) dX12_lays_335 ?_
      refine ev_is (y := (q336_X12_lays_68 n I A J t x1 A322 v322_2 v322_3)) rfl ?_
      refine ev_istore_4 (pc := 336) dX12_lays_336 (by decide) rfl ?_
      refine ev_aload_n (pc := 338) dX12_lays_338 rfl ?_
      refine tv_getr (pc := 339) (d := 109) dX12_lays_339 fl_X12_140 (by decide) rfl rfl ?_
      refine ev_iload (pc := 342) dX12_lays_342 rfl ?_
      refine ev_iconst (pc := 344) (v := (-1)) dX12_lays_344 (by decide) ?_
      refine tw_iast (pc := 345) (A2 := (qA345_X12_lays_68 n I A J t x1 A322 v322_2 v322_3)) dX12_lays_345 (by decide) rfl hb.1 rfl ?_
      replace hb := hb.2
      refine ev_aload_n (pc := 346) dX12_lays_346 rfl ?_
      refine tv_geti (pc := 347) dX12_lays_347 fl_X12_289 (by decide) rfl rfl ?_
      refine ev_iconst (pc := 350) (v := 1) dX12_lays_350 (by decide) ?_
      refine ev_isub (pc := 351) dX12_lays_351 ?_
      refine ev_is (y := (q352_X12_lays_68 n I A J t x1 A322 v322_2 v322_3)) rfl ?_
      refine ev_istore_5 (pc := 352) dX12_lays_352 (by decide) rfl ?_
      refine lt_X12_lays_68_354 g n I A J t x1 A322 v322_2 v322_3 n (qA345_X12_lays_68 n I A J t x1 A322 v322_2 v322_3) (q352_X12_lays_68 n I A J t x1 A322 v322_2 v322_3) (qAw354_X12_lays_68 n I A J t x1 A322 v322_2 v322_3) (q5w354_X12_lays_68 n I A J t x1 A322 v322_2 v322_3) hb.1 rfl rfl ?_
      replace hb := hb.2
      refine ev_aload_n (pc := 485) dX12_lays_485 rfl ?_
      refine tv_getr (pc := 486) (d := 109) dX12_lays_486 fl_X12_140 (by decide) rfl rfl ?_
      refine ev_iload (pc := 489) dX12_lays_489 rfl ?_
      refine ev_iald (pc := 491) dX12_lays_491 (by decide) rfl hb.1 ?_
      replace hb := hb.2
      refine ev_is (y := (q492_X12_lays_68 n I A J t x1 A322 v322_2 v322_3)) rfl ?_
      refine ev_istore_5 (pc := 492) dX12_lays_492 (by decide) rfl ?_
      refine ev_iload (pc := 494) dX12_lays_494 rfl ?_
      refine ev_iconst (pc := 496) (v := (-1)) dX12_lays_496 (by decide) ?_
      obtain ⟨hT_497, hb⟩ := hb
      refine ev_cut (pj := 586) (Lj := [some (.ref (cw_z g + 68)), some (.int x1), some (.int (ql2m497_X12_lays_68 n I A J t x1 A322 v322_2 v322_3)), some (.int v322_3), some (.int (q336_X12_lays_68 n I A J t x1 A322 v322_2 v322_3)), some (.int (q492_X12_lays_68 n I A J t x1 A322 v322_2 v322_3)), none, none, none]) (stj := []) (σj := hp g I (qAm497_X12_lays_68 n I A J t x1 A322 v322_2 v322_3) J t) ?_ (fun hJ_497 => ?_)
      rotate_left
      · refine ev_icmp_ne (pc := 497) (tgt := 503) dX12_lays_497 (by decide) (fun c_497 => ?_) (fun c_497 => ?_)
        · have hb := hT_497 c_497
          refine ev_iload_n (pc := 503) dX12_lays_503 rfl ?_
          refine ev_iconst (pc := 504) (v := 1) dX12_lays_504 (by decide) ?_
          refine ev_iload (pc := 505) dX12_lays_505 rfl ?_
          refine ev_ishl (pc := 507) dX12_lays_507 ?_
          refine ev_ior (pc := 508) dX12_lays_508 ?_
          refine ev_is (y := (q509_X12_lays_68 n I A J t x1 A322 v322_2 v322_3)) rfl ?_
          refine ev_istore_2 (pc := 509) dX12_lays_509 (by decide) rfl ?_
          refine ev_aload_n (pc := 510) dX12_lays_510 rfl ?_
          refine tv_getr (pc := 511) (d := 117) dX12_lays_511 fl_X12_164 (by decide) rfl rfl ?_
          refine ev_iload (pc := 514) dX12_lays_514 rfl ?_
          refine ev_aload_n (pc := 516) dX12_lays_516 rfl ?_
          refine tv_getr (pc := 517) (d := 116) dX12_lays_517 fl_X12_161 (by decide) rfl rfl ?_
          refine ev_bipush (pc := 520) (v := 6) dX12_lays_520 (by decide) ?_
          refine ev_iload_n (pc := 522) dX12_lays_522 rfl ?_
          refine ev_imul (pc := 523) dX12_lays_523 ?_
          refine ev_iload (pc := 524) dX12_lays_524 rfl ?_
          refine ev_iadd (pc := 526) dX12_lays_526 ?_
          refine ev_iald (pc := 527) dX12_lays_527 (by decide) rfl hb.1 ?_
          replace hb := hb.2
          refine tw_iast (pc := 528) (A2 := (qA528_X12_lays_68 n I A J t x1 A322 v322_2 v322_3)) dX12_lays_528 (by decide) rfl hb.1 rfl ?_
          replace hb := hb.2
          refine ev_aload_n (pc := 529) dX12_lays_529 rfl ?_
          refine tv_getr (pc := 530) (d := 110) dX12_lays_530 fl_X12_143 (by decide) rfl rfl ?_
          refine ev_iload (pc := 533) dX12_lays_533 rfl ?_
          refine ev_aload_n (pc := 535) dX12_lays_535 rfl ?_
          refine tv_getr (pc := 536) (d := 114) dX12_lays_536 fl_X12_155 (by decide) rfl rfl ?_
          refine ev_bipush (pc := 539) (v := 6) dX12_lays_539 (by decide) ?_
          refine ev_iload_n (pc := 541) dX12_lays_541 rfl ?_
          refine ev_imul (pc := 542) dX12_lays_542 ?_
          refine ev_iload (pc := 543) dX12_lays_543 rfl ?_
          refine ev_iadd (pc := 545) dX12_lays_545 ?_
          refine ev_iald (pc := 546) dX12_lays_546 (by decide) rfl hb.1 ?_
          replace hb := hb.2
          refine tw_iast (pc := 547) (A2 := (qA547_X12_lays_68 n I A J t x1 A322 v322_2 v322_3)) dX12_lays_547 (by decide) rfl hb.1 rfl ?_
          replace hb := hb.2
          refine ev_aload_n (pc := 548) dX12_lays_548 rfl ?_
          refine tv_getr (pc := 549) (d := 111) dX12_lays_549 fl_X12_146 (by decide) rfl rfl ?_
          refine ev_iload (pc := 552) dX12_lays_552 rfl ?_
          refine ev_aload_n (pc := 554) dX12_lays_554 rfl ?_
          refine tv_getr (pc := 555) (d := 116) dX12_lays_555 fl_X12_161 (by decide) rfl rfl ?_
          refine ev_bipush (pc := 558) (v := 6) dX12_lays_558 (by decide) ?_
          refine ev_iload_n (pc := 560) dX12_lays_560 rfl ?_
          refine ev_imul (pc := 561) dX12_lays_561 ?_
          refine ev_iload (pc := 562) dX12_lays_562 rfl ?_
          refine ev_iadd (pc := 564) dX12_lays_564 ?_
          refine ev_iald (pc := 565) dX12_lays_565 (by decide) rfl hb.1 ?_
          replace hb := hb.2
          refine tw_iast (pc := 566) (A2 := (qA566_X12_lays_68 n I A J t x1 A322 v322_2 v322_3)) dX12_lays_566 (by decide) rfl hb.1 rfl ?_
          replace hb := hb.2
          refine ev_aload_n (pc := 567) dX12_lays_567 rfl ?_
          refine tv_getr (pc := 568) (d := 112) dX12_lays_568 fl_X12_149 (by decide) rfl rfl ?_
          refine ev_iload (pc := 571) dX12_lays_571 rfl ?_
          refine ev_aload_n (pc := 573) dX12_lays_573 rfl ?_
          refine tv_getr (pc := 574) (d := 115) dX12_lays_574 fl_X12_158 (by decide) rfl rfl ?_
          refine ev_bipush (pc := 577) (v := 6) dX12_lays_577 (by decide) ?_
          refine ev_iload_n (pc := 579) dX12_lays_579 rfl ?_
          refine ev_imul (pc := 580) dX12_lays_580 ?_
          refine ev_iload (pc := 581) dX12_lays_581 rfl ?_
          refine ev_iadd (pc := 583) dX12_lays_583 ?_
          refine ev_iald (pc := 584) dX12_lays_584 (by decide) rfl hb.1 ?_
          replace hb := hb.2
          refine tw_iast (pc := 585) (A2 := (qA585_X12_lays_68 n I A J t x1 A322 v322_2 v322_3)) dX12_lays_585 (by decide) rfl hb rfl ?_
          simp only [qAm497_X12_lays_68, ql2m497_X12_lays_68, if_neg c_497] at hJ_497
          exact ev_loc hJ_497 cw_le0
        · refine ev_goto (pc := 500) (tgt := 586) dX12_lays_500 (by decide) ?_
          simp only [qAm497_X12_lays_68, ql2m497_X12_lays_68, if_pos c_497] at hJ_497
          exact ev_loc hJ_497 cw_le0
      refine ev_iinc_3 (pc := 586) (v := (q586_X12_lays_68 n I A J t x1 A322 v322_2 v322_3)) dX12_lays_586 (by decide) rfl rfl ?_
      refine ev_goto (pc := 589) (tgt := 322) dX12_lays_589 (by decide) ?_
      exact ev_loc (ih (qAm497_X12_lays_68 n I A J t x1 A322 v322_2 v322_3) (ql2m497_X12_lays_68 n I A J t x1 A322 v322_2 v322_3) (q586_X12_lays_68 n I A J t x1 A322 v322_2 v322_3) w0 w1 w2 hb h0 h1 h2 hE) (cw_leS (cw_leS (cw_leS (cw_leS (cw_leN (cw_leN cw_le0))))))

set_option maxRecDepth 100000 in
set_option maxHeartbeats 4000000 in
theorem cv_X12_lays_68 (g : cw_G) (n : Nat) (I : Nat → Nat → Int32) (A : Nat → Nat → Int32) (J : Nat → Nat → Int64) (t : Bool × Bool) (x1 : Int32) (hb : pb_X12_lays_68 n I A J t x1) : Cd g mX12_lays [(.ref (cw_z g + 68)), (.int x1)] (hp g I A J t) none (hp g I (pA_X12_lays_68 n I A J t x1) J t) := by
  unfold pb_X12_lays_68 at hb
  unfold pA_X12_lays_68
  refine Cd.of rfl (Nat.le_of_ble_eq_true rfl) (ev_gen (fun Q hQ => ?_))
  refine ev_iconst (pc := 0) (v := 0) dX12_lays_0 (by decide) ?_
  refine ev_istore_2 (pc := 1) dX12_lays_1 (by decide) rfl ?_
  refine lt_X12_lays_68_2 g n I A J t x1 n A 0 (qAw2_X12_lays_68 n I A J t x1) (q2w2_X12_lays_68 n I A J t x1) hb.1 rfl rfl ?_
  replace hb := hb.2
  refine ev_aload_n (pc := 44) dX12_lays_44 rfl ?_
  refine tv_geti (pc := 45) dX12_lays_45 fl_X12_295 (by decide) rfl rfl ?_
  refine ev_iconst (pc := 48) (v := 1) dX12_lays_48 (by decide) ?_
  refine ev_isub (pc := 49) dX12_lays_49 ?_
  refine ev_is (y := (q50_X12_lays_68 n I A J t x1)) rfl ?_
  refine ev_istore_2 (pc := 50) dX12_lays_50 (by decide) rfl ?_
  refine lt_X12_lays_68_51 g n I A J t x1 n (qAw2_X12_lays_68 n I A J t x1) (q50_X12_lays_68 n I A J t x1) (qAw51_X12_lays_68 n I A J t x1) (q2w51_X12_lays_68 n I A J t x1) hb.1 rfl rfl ?_
  replace hb := hb.2
  refine ev_aload_n (pc := 285) dX12_lays_285 rfl ?_
  refine tv_getr (pc := 286) (d := 113) dX12_lays_286 fl_X12_152 (by decide) rfl rfl ?_
  refine ev_iload_n (pc := 289) dX12_lays_289 rfl ?_
  refine ev_aload_n (pc := 290) dX12_lays_290 rfl ?_
  refine tv_getr (pc := 291) (d := 118) dX12_lays_291 fl_X12_167 (by decide) rfl rfl ?_
  refine ev_iconst (pc := 294) (v := 0) dX12_lays_294 (by decide) ?_
  refine ev_iald (pc := 295) dX12_lays_295 (by decide) rfl hb.1 ?_
  replace hb := hb.2
  refine tw_iast (pc := 296) (A2 := (qA296_X12_lays_68 n I A J t x1)) dX12_lays_296 (by decide) rfl hb.1 rfl ?_
  replace hb := hb.2
  refine ev_iconst (pc := 297) (v := 0) dX12_lays_297 (by decide) ?_
  refine ev_istore_2 (pc := 298) dX12_lays_298 (by decide) rfl ?_
  refine ev_iconst (pc := 299) (v := 0) dX12_lays_299 (by decide) ?_
  refine ev_istore_3 (pc := 300) dX12_lays_300 (by decide) rfl ?_
  refine lt_X12_lays_68_301 g n I A J t x1 n (qA296_X12_lays_68 n I A J t x1) 0 (qAw301_X12_lays_68 n I A J t x1) (q3w301_X12_lays_68 n I A J t x1) hb.1 rfl rfl ?_
  replace hb := hb.2
  refine ev_iconst (pc := 320) (v := 0) dX12_lays_320 (by decide) ?_
  refine ev_istore_3 (pc := 321) dX12_lays_321 (by decide) rfl ?_
  refine lt_X12_lays_68_322 g n I A J t x1 n (qAw301_X12_lays_68 n I A J t x1) 0 0 (qAw322_X12_lays_68 n I A J t x1) (q2w322_X12_lays_68 n I A J t x1) (q3w322_X12_lays_68 n I A J t x1) hb rfl rfl rfl ?_
  exact ev_vret (pc := 592) dX12_lays_592 rfl (by decide) (by decide) (hQ _ _ ⟨rfl, rfl⟩)

def qA31_X12_schedule_68 (n : Nat) (I : Nat → Nat → Int32) (A : Nat → Nat → Int32) (J : Nat → Nat → Int64) (t : Bool × Bool) (x1 : Int32) (x2 : Int32) (A19 : Nat → Nat → Int32) (v19_3 : Int32) : Nat → Nat → Int32 := cw_u A19 117 (v19_3).toNatClampNeg (-1)
def q32_X12_schedule_68 (n : Nat) (I : Nat → Nat → Int32) (A : Nat → Nat → Int32) (J : Nat → Nat → Int64) (t : Bool × Bool) (x1 : Int32) (x2 : Int32) (A19 : Nat → Nat → Int32) (v19_3 : Int32) : Int32 := v19_3 + 1
def lp_X12_schedule_68_19 (n : Nat) (I : Nat → Nat → Int32) (A : Nat → Nat → Int32) (J : Nat → Nat → Int64) (t : Bool × Bool) (x1 : Int32) (x2 : Int32) : Nat → (Nat → Nat → Int32) → (Int32) → (Nat → Nat → Int32) × Int32
  | 0, A19, v19_3 => (A19, v19_3)
  | f + 1, A19, v19_3 => if 6 ≤ v19_3 then (A19, v19_3) else lp_X12_schedule_68_19 n I A J t x1 x2 f (qA31_X12_schedule_68 n I A J t x1 x2 A19 v19_3) (q32_X12_schedule_68 n I A J t x1 x2 A19 v19_3)
def lb_X12_schedule_68_19 (n : Nat) (I : Nat → Nat → Int32) (A : Nat → Nat → Int32) (J : Nat → Nat → Int64) (t : Bool × Bool) (x1 : Int32) (x2 : Int32) : Nat → (Nat → Nat → Int32) → (Int32) → Prop
  | 0, _, _ => False
  | f + 1, A19, v19_3 => (¬ 6 ≤ v19_3 → vp_in v19_3 6 ∧ lb_X12_schedule_68_19 n I A J t x1 x2 f (qA31_X12_schedule_68 n I A J t x1 x2 A19 v19_3) (q32_X12_schedule_68 n I A J t x1 x2 A19 v19_3))
def qAw19_X12_schedule_68 (n : Nat) (I : Nat → Nat → Int32) (A : Nat → Nat → Int32) (J : Nat → Nat → Int64) (t : Bool × Bool) (x1 : Int32) (x2 : Int32) : Nat → Nat → Int32 := (lp_X12_schedule_68_19 n I A J t x1 x2 n A 0).1
def q3w19_X12_schedule_68 (n : Nat) (I : Nat → Nat → Int32) (A : Nat → Nat → Int32) (J : Nat → Nat → Int64) (t : Bool × Bool) (x1 : Int32) (x2 : Int32) : Int32 := (lp_X12_schedule_68_19 n I A J t x1 x2 n A 0).2
def q86_X12_schedule_68 (n : Nat) (I : Nat → Nat → Int32) (A : Nat → Nat → Int32) (J : Nat → Nat → Int64) (t : Bool × Bool) (x1 : Int32) (x2 : Int32) (I43 : Nat → Nat → Int32) (A43 : Nat → Nat → Int32) (v43_3 : Int32) (v43_4 : Int32) (I53 : Nat → Nat → Int32) (A53 : Nat → Nat → Int32) (v53_5 : Int32) (I65 : Nat → Nat → Int32) (A65 : Nat → Nat → Int32) (v65_6 : Int32) : Int32 := v65_6 + 1
def lp_X12_schedule_68_65 (n : Nat) (I : Nat → Nat → Int32) (A : Nat → Nat → Int32) (J : Nat → Nat → Int64) (t : Bool × Bool) (x1 : Int32) (x2 : Int32) (I43 : Nat → Nat → Int32) (A43 : Nat → Nat → Int32) (v43_3 : Int32) (v43_4 : Int32) (I53 : Nat → Nat → Int32) (A53 : Nat → Nat → Int32) (v53_5 : Int32) : Nat → (Nat → Nat → Int32) → (Nat → Nat → Int32) → (Int32) → (Nat → Nat → Int32) × (Nat → Nat → Int32) × Int32
  | 0, I65, A65, v65_6 => (I65, A65, v65_6)
  | f + 1, I65, A65, v65_6 => if (I65 68 40) ≤ v65_6 then (I65, A65, v65_6) else lp_X12_schedule_68_65 n I A J t x1 x2 I43 A43 v43_3 v43_4 I53 A53 v53_5 f (pI_X12_fits_68 n I65 A65 J t v53_5 v65_6 x1 v43_4 x2) (pA_X12_fits_68 n I65 A65 J t v53_5 v65_6 x1 v43_4 x2) (q86_X12_schedule_68 n I A J t x1 x2 I43 A43 v43_3 v43_4 I53 A53 v53_5 I65 A65 v65_6)
def lb_X12_schedule_68_65 (n : Nat) (I : Nat → Nat → Int32) (A : Nat → Nat → Int32) (J : Nat → Nat → Int64) (t : Bool × Bool) (x1 : Int32) (x2 : Int32) (I43 : Nat → Nat → Int32) (A43 : Nat → Nat → Int32) (v43_3 : Int32) (v43_4 : Int32) (I53 : Nat → Nat → Int32) (A53 : Nat → Nat → Int32) (v53_5 : Int32) : Nat → (Nat → Nat → Int32) → (Nat → Nat → Int32) → (Int32) → Prop
  | 0, _, _, _ => False
  | f + 1, I65, A65, v65_6 => (¬ (I65 68 40) ≤ v65_6 → pb_X12_fits_68 n I65 A65 J t v53_5 v65_6 x1 v43_4 x2 ∧ lb_X12_schedule_68_65 n I A J t x1 x2 I43 A43 v43_3 v43_4 I53 A53 v53_5 f (pI_X12_fits_68 n I65 A65 J t v53_5 v65_6 x1 v43_4 x2) (pA_X12_fits_68 n I65 A65 J t v53_5 v65_6 x1 v43_4 x2) (q86_X12_schedule_68 n I A J t x1 x2 I43 A43 v43_3 v43_4 I53 A53 v53_5 I65 A65 v65_6))
def qIw65_X12_schedule_68 (n : Nat) (I : Nat → Nat → Int32) (A : Nat → Nat → Int32) (J : Nat → Nat → Int64) (t : Bool × Bool) (x1 : Int32) (x2 : Int32) (I43 : Nat → Nat → Int32) (A43 : Nat → Nat → Int32) (v43_3 : Int32) (v43_4 : Int32) (I53 : Nat → Nat → Int32) (A53 : Nat → Nat → Int32) (v53_5 : Int32) : Nat → Nat → Int32 := (lp_X12_schedule_68_65 n I A J t x1 x2 I43 A43 v43_3 v43_4 I53 A53 v53_5 n I53 A53 0).1
def qAw65_X12_schedule_68 (n : Nat) (I : Nat → Nat → Int32) (A : Nat → Nat → Int32) (J : Nat → Nat → Int64) (t : Bool × Bool) (x1 : Int32) (x2 : Int32) (I43 : Nat → Nat → Int32) (A43 : Nat → Nat → Int32) (v43_3 : Int32) (v43_4 : Int32) (I53 : Nat → Nat → Int32) (A53 : Nat → Nat → Int32) (v53_5 : Int32) : Nat → Nat → Int32 := (lp_X12_schedule_68_65 n I A J t x1 x2 I43 A43 v43_3 v43_4 I53 A53 v53_5 n I53 A53 0).2.1
def q6w65_X12_schedule_68 (n : Nat) (I : Nat → Nat → Int32) (A : Nat → Nat → Int32) (J : Nat → Nat → Int64) (t : Bool × Bool) (x1 : Int32) (x2 : Int32) (I43 : Nat → Nat → Int32) (A43 : Nat → Nat → Int32) (v43_3 : Int32) (v43_4 : Int32) (I53 : Nat → Nat → Int32) (A53 : Nat → Nat → Int32) (v53_5 : Int32) : Int32 := (lp_X12_schedule_68_65 n I A J t x1 x2 I43 A43 v43_3 v43_4 I53 A53 v53_5 n I53 A53 0).2.2
def q92_X12_schedule_68 (n : Nat) (I : Nat → Nat → Int32) (A : Nat → Nat → Int32) (J : Nat → Nat → Int64) (t : Bool × Bool) (x1 : Int32) (x2 : Int32) (I43 : Nat → Nat → Int32) (A43 : Nat → Nat → Int32) (v43_3 : Int32) (v43_4 : Int32) (I53 : Nat → Nat → Int32) (A53 : Nat → Nat → Int32) (v53_5 : Int32) : Int32 := v53_5 + 1
def lp_X12_schedule_68_53 (n : Nat) (I : Nat → Nat → Int32) (A : Nat → Nat → Int32) (J : Nat → Nat → Int64) (t : Bool × Bool) (x1 : Int32) (x2 : Int32) (I43 : Nat → Nat → Int32) (A43 : Nat → Nat → Int32) (v43_3 : Int32) (v43_4 : Int32) : Nat → (Nat → Nat → Int32) → (Nat → Nat → Int32) → (Int32) → (Nat → Nat → Int32) × (Nat → Nat → Int32) × Int32
  | 0, I53, A53, v53_5 => (I53, A53, v53_5)
  | f + 1, I53, A53, v53_5 => if (I53 68 43) ≤ v53_5 then (I53, A53, v53_5) else lp_X12_schedule_68_53 n I A J t x1 x2 I43 A43 v43_3 v43_4 f (qIw65_X12_schedule_68 n I A J t x1 x2 I43 A43 v43_3 v43_4 I53 A53 v53_5) (qAw65_X12_schedule_68 n I A J t x1 x2 I43 A43 v43_3 v43_4 I53 A53 v53_5) (q92_X12_schedule_68 n I A J t x1 x2 I43 A43 v43_3 v43_4 I53 A53 v53_5)
def lb_X12_schedule_68_53 (n : Nat) (I : Nat → Nat → Int32) (A : Nat → Nat → Int32) (J : Nat → Nat → Int64) (t : Bool × Bool) (x1 : Int32) (x2 : Int32) (I43 : Nat → Nat → Int32) (A43 : Nat → Nat → Int32) (v43_3 : Int32) (v43_4 : Int32) : Nat → (Nat → Nat → Int32) → (Nat → Nat → Int32) → (Int32) → Prop
  | 0, _, _, _ => False
  | f + 1, I53, A53, v53_5 => (¬ (I53 68 43) ≤ v53_5 → lb_X12_schedule_68_65 n I A J t x1 x2 I43 A43 v43_3 v43_4 I53 A53 v53_5 n I53 A53 0 ∧ lb_X12_schedule_68_53 n I A J t x1 x2 I43 A43 v43_3 v43_4 f (qIw65_X12_schedule_68 n I A J t x1 x2 I43 A43 v43_3 v43_4 I53 A53 v53_5) (qAw65_X12_schedule_68 n I A J t x1 x2 I43 A43 v43_3 v43_4 I53 A53 v53_5) (q92_X12_schedule_68 n I A J t x1 x2 I43 A43 v43_3 v43_4 I53 A53 v53_5))
def qIw53_X12_schedule_68 (n : Nat) (I : Nat → Nat → Int32) (A : Nat → Nat → Int32) (J : Nat → Nat → Int64) (t : Bool × Bool) (x1 : Int32) (x2 : Int32) (I43 : Nat → Nat → Int32) (A43 : Nat → Nat → Int32) (v43_3 : Int32) (v43_4 : Int32) : Nat → Nat → Int32 := (lp_X12_schedule_68_53 n I A J t x1 x2 I43 A43 v43_3 v43_4 n I43 A43 0).1
def qAw53_X12_schedule_68 (n : Nat) (I : Nat → Nat → Int32) (A : Nat → Nat → Int32) (J : Nat → Nat → Int64) (t : Bool × Bool) (x1 : Int32) (x2 : Int32) (I43 : Nat → Nat → Int32) (A43 : Nat → Nat → Int32) (v43_3 : Int32) (v43_4 : Int32) : Nat → Nat → Int32 := (lp_X12_schedule_68_53 n I A J t x1 x2 I43 A43 v43_3 v43_4 n I43 A43 0).2.1
def q5w53_X12_schedule_68 (n : Nat) (I : Nat → Nat → Int32) (A : Nat → Nat → Int32) (J : Nat → Nat → Int64) (t : Bool × Bool) (x1 : Int32) (x2 : Int32) (I43 : Nat → Nat → Int32) (A43 : Nat → Nat → Int32) (v43_3 : Int32) (v43_4 : Int32) : Int32 := (lp_X12_schedule_68_53 n I A J t x1 x2 I43 A43 v43_3 v43_4 n I43 A43 0).2.2
def q113_X12_schedule_68 (n : Nat) (I : Nat → Nat → Int32) (A : Nat → Nat → Int32) (J : Nat → Nat → Int64) (t : Bool × Bool) (x1 : Int32) (x2 : Int32) (I43 : Nat → Nat → Int32) (A43 : Nat → Nat → Int32) (v43_3 : Int32) (v43_4 : Int32) : Int32 := (v43_3 + ((pA_X12_lays_68 n (qIw53_X12_schedule_68 n I A J t x1 x2 I43 A43 v43_3 v43_4) (qAw53_X12_schedule_68 n I A J t x1 x2 I43 A43 v43_3 v43_4) J t v43_4) 113 (v43_4).toNatClampNeg))
def q114_X12_schedule_68 (n : Nat) (I : Nat → Nat → Int32) (A : Nat → Nat → Int32) (J : Nat → Nat → Int64) (t : Bool × Bool) (x1 : Int32) (x2 : Int32) (I43 : Nat → Nat → Int32) (A43 : Nat → Nat → Int32) (v43_3 : Int32) (v43_4 : Int32) : Int32 := v43_4 + 1
def lp_X12_schedule_68_43 (n : Nat) (I : Nat → Nat → Int32) (A : Nat → Nat → Int32) (J : Nat → Nat → Int64) (t : Bool × Bool) (x1 : Int32) (x2 : Int32) : Nat → (Nat → Nat → Int32) → (Nat → Nat → Int32) → (Int32) → (Int32) → (Nat → Nat → Int32) × (Nat → Nat → Int32) × Int32 × Int32
  | 0, I43, A43, v43_3, v43_4 => (I43, A43, v43_3, v43_4)
  | f + 1, I43, A43, v43_3, v43_4 => if 24 ≤ v43_4 then (I43, A43, v43_3, v43_4) else lp_X12_schedule_68_43 n I A J t x1 x2 f (qIw53_X12_schedule_68 n I A J t x1 x2 I43 A43 v43_3 v43_4) (pA_X12_lays_68 n (qIw53_X12_schedule_68 n I A J t x1 x2 I43 A43 v43_3 v43_4) (qAw53_X12_schedule_68 n I A J t x1 x2 I43 A43 v43_3 v43_4) J t v43_4) (q113_X12_schedule_68 n I A J t x1 x2 I43 A43 v43_3 v43_4) (q114_X12_schedule_68 n I A J t x1 x2 I43 A43 v43_3 v43_4)
def lb_X12_schedule_68_43 (n : Nat) (I : Nat → Nat → Int32) (A : Nat → Nat → Int32) (J : Nat → Nat → Int64) (t : Bool × Bool) (x1 : Int32) (x2 : Int32) : Nat → (Nat → Nat → Int32) → (Nat → Nat → Int32) → (Int32) → (Int32) → Prop
  | 0, _, _, _, _ => False
  | f + 1, I43, A43, v43_3, v43_4 => (¬ 24 ≤ v43_4 → lb_X12_schedule_68_53 n I A J t x1 x2 I43 A43 v43_3 v43_4 n I43 A43 0 ∧ pb_X12_lays_68 n (qIw53_X12_schedule_68 n I A J t x1 x2 I43 A43 v43_3 v43_4) (qAw53_X12_schedule_68 n I A J t x1 x2 I43 A43 v43_3 v43_4) J t v43_4 ∧ vp_in v43_4 24 ∧ lb_X12_schedule_68_43 n I A J t x1 x2 f (qIw53_X12_schedule_68 n I A J t x1 x2 I43 A43 v43_3 v43_4) (pA_X12_lays_68 n (qIw53_X12_schedule_68 n I A J t x1 x2 I43 A43 v43_3 v43_4) (qAw53_X12_schedule_68 n I A J t x1 x2 I43 A43 v43_3 v43_4) J t v43_4) (q113_X12_schedule_68 n I A J t x1 x2 I43 A43 v43_3 v43_4) (q114_X12_schedule_68 n I A J t x1 x2 I43 A43 v43_3 v43_4))
def qIw43_X12_schedule_68 (n : Nat) (I : Nat → Nat → Int32) (A : Nat → Nat → Int32) (J : Nat → Nat → Int64) (t : Bool × Bool) (x1 : Int32) (x2 : Int32) : Nat → Nat → Int32 := (lp_X12_schedule_68_43 n I A J t x1 x2 n I (qAw19_X12_schedule_68 n I A J t x1 x2) 0 0).1
def qAw43_X12_schedule_68 (n : Nat) (I : Nat → Nat → Int32) (A : Nat → Nat → Int32) (J : Nat → Nat → Int64) (t : Bool × Bool) (x1 : Int32) (x2 : Int32) : Nat → Nat → Int32 := (lp_X12_schedule_68_43 n I A J t x1 x2 n I (qAw19_X12_schedule_68 n I A J t x1 x2) 0 0).2.1
def q3w43_X12_schedule_68 (n : Nat) (I : Nat → Nat → Int32) (A : Nat → Nat → Int32) (J : Nat → Nat → Int64) (t : Bool × Bool) (x1 : Int32) (x2 : Int32) : Int32 := (lp_X12_schedule_68_43 n I A J t x1 x2 n I (qAw19_X12_schedule_68 n I A J t x1 x2) 0 0).2.2.1
def q4w43_X12_schedule_68 (n : Nat) (I : Nat → Nat → Int32) (A : Nat → Nat → Int32) (J : Nat → Nat → Int64) (t : Bool × Bool) (x1 : Int32) (x2 : Int32) : Int32 := (lp_X12_schedule_68_43 n I A J t x1 x2 n I (qAw19_X12_schedule_68 n I A J t x1 x2) 0 0).2.2.2
def qI122_X12_schedule_68 (n : Nat) (I : Nat → Nat → Int32) (A : Nat → Nat → Int32) (J : Nat → Nat → Int64) (t : Bool × Bool) (x1 : Int32) (x2 : Int32) : Nat → Nat → Int32 := cw_u (qIw43_X12_schedule_68 n I A J t x1 x2) 68 64 1
def qI130_X12_schedule_68 (n : Nat) (I : Nat → Nat → Int32) (A : Nat → Nat → Int32) (J : Nat → Nat → Int64) (t : Bool × Bool) (x1 : Int32) (x2 : Int32) : Nat → Nat → Int32 := cw_u (qI122_X12_schedule_68 n I A J t x1 x2) 68 65 ((qI122_X12_schedule_68 n I A J t x1 x2) 68 43)
def pb_X12_schedule_68 (n : Nat) (I : Nat → Nat → Int32) (A : Nat → Nat → Int32) (J : Nat → Nat → Int64) (t : Bool × Bool) (x1 : Int32) (x2 : Int32) : Prop := (¬ (px_X12_isDay n I A J t x1) = 0 → (¬ (px_X12_isKnown_68 n I A J t x2) = 0 → lb_X12_schedule_68_19 n I A J t x1 x2 n A 0 ∧ lb_X12_schedule_68_43 n I A J t x1 x2 n I (qAw19_X12_schedule_68 n I A J t x1 x2) 0 0))
def px_X12_schedule_68 (n : Nat) (I : Nat → Nat → Int32) (A : Nat → Nat → Int32) (J : Nat → Nat → Int64) (t : Bool × Bool) (x1 : Int32) (x2 : Int32) : Int32 := (if (px_X12_isDay n I A J t x1) = 0 then (-1) else (if (px_X12_isKnown_68 n I A J t x2) = 0 then (-1) else (q3w43_X12_schedule_68 n I A J t x1 x2)))
def pI_X12_schedule_68 (n : Nat) (I : Nat → Nat → Int32) (A : Nat → Nat → Int32) (J : Nat → Nat → Int64) (t : Bool × Bool) (x1 : Int32) (x2 : Int32) : Nat → Nat → Int32 := (if (px_X12_isDay n I A J t x1) = 0 then I else (if (px_X12_isKnown_68 n I A J t x2) = 0 then I else (qI130_X12_schedule_68 n I A J t x1 x2)))
def pA_X12_schedule_68 (n : Nat) (I : Nat → Nat → Int32) (A : Nat → Nat → Int32) (J : Nat → Nat → Int64) (t : Bool × Bool) (x1 : Int32) (x2 : Int32) : Nat → Nat → Int32 := (if (px_X12_isDay n I A J t x1) = 0 then A else (if (px_X12_isKnown_68 n I A J t x2) = 0 then A else (qAw43_X12_schedule_68 n I A J t x1 x2)))
set_option maxRecDepth 100000 in
set_option maxHeartbeats 4000000 in
theorem lt_X12_schedule_68_19 (g : cw_G) (n : Nat) (I : Nat → Nat → Int32) (A : Nat → Nat → Int32) (J : Nat → Nat → Int64) (t : Bool × Bool) (x1 : Int32) (x2 : Int32) {Q : Option Value → cw_H → Prop} : ∀ (f : Nat) (A19 : Nat → Nat → Int32) (v19_3 : Int32) (w0 : Nat → Nat → Int32) (w1 : Int32), lb_X12_schedule_68_19 n I A J t x1 x2 f A19 v19_3 → (lp_X12_schedule_68_19 n I A J t x1 x2 f A19 v19_3).1 = w0 → (lp_X12_schedule_68_19 n I A J t x1 x2 f A19 v19_3).2 = w1 → Ev g mX12_schedule 0 0 38 [some (.ref (cw_z g + 68)), some (.int x1), some (.int x2), some (.int w1), none, none, none] [] (hp g I w0 J t) Q → Ev g mX12_schedule 0 0 19 [some (.ref (cw_z g + 68)), some (.int x1), some (.int x2), some (.int v19_3), none, none, none] [] (hp g I A19 J t) Q := by
  intro f
  induction f with
  | zero =>
    intro A19 v19_3 w0 w1 hb
    exact hb.elim
  | succ f ih =>
    intro A19 v19_3 w0 w1 hb h0 h1 hE
    rw [lb_X12_schedule_68_19] at hb
    rw [lp_X12_schedule_68_19] at h0 h1
    refine ev_iload_n (pc := 19) dX12_schedule_19 rfl ?_
    refine ev_bipush (pc := 20) (v := 6) dX12_schedule_20 (by decide) ?_
    have hF_22 := hb
    refine ev_icmp_ge (pc := 22) (tgt := 38) dX12_schedule_22 (by decide) (fun c_22 => ?_) (fun c_22 => ?_)
    · try simp only [if_pos c_22] at h0
      try simp only [if_pos c_22] at h1
      subst h0
      subst h1
      exact ev_loc hE cw_le0
    · have hb := hF_22 c_22
      try simp only [if_neg c_22] at h0
      try simp only [if_neg c_22] at h1
      refine ev_aload_n (pc := 25) dX12_schedule_25 rfl ?_
      refine tv_getr (pc := 26) (d := 117) dX12_schedule_26 fl_X12_164 (by decide) rfl rfl ?_
      refine ev_iload_n (pc := 29) dX12_schedule_29 rfl ?_
      refine ev_iconst (pc := 30) (v := (-1)) dX12_schedule_30 (by decide) ?_
      refine tw_iast (pc := 31) (A2 := (qA31_X12_schedule_68 n I A J t x1 x2 A19 v19_3)) dX12_schedule_31 (by decide) rfl hb.1 rfl ?_
      replace hb := hb.2
      refine ev_iinc_3 (pc := 32) (v := (q32_X12_schedule_68 n I A J t x1 x2 A19 v19_3)) dX12_schedule_32 (by decide) rfl rfl ?_
      refine ev_goto (pc := 35) (tgt := 19) dX12_schedule_35 (by decide) ?_
      exact ev_loc (ih (qA31_X12_schedule_68 n I A J t x1 x2 A19 v19_3) (q32_X12_schedule_68 n I A J t x1 x2 A19 v19_3) w0 w1 hb h0 h1 hE) cw_le0

set_option maxRecDepth 100000 in
set_option maxHeartbeats 4000000 in
theorem lt_X12_schedule_68_65 (g : cw_G) (n : Nat) (I : Nat → Nat → Int32) (A : Nat → Nat → Int32) (J : Nat → Nat → Int64) (t : Bool × Bool) (x1 : Int32) (x2 : Int32) (I43 : Nat → Nat → Int32) (A43 : Nat → Nat → Int32) (v43_3 : Int32) (v43_4 : Int32) (I53 : Nat → Nat → Int32) (A53 : Nat → Nat → Int32) (v53_5 : Int32) {Q : Option Value → cw_H → Prop} : ∀ (f : Nat) (I65 : Nat → Nat → Int32) (A65 : Nat → Nat → Int32) (v65_6 : Int32) (w0 : Nat → Nat → Int32) (w1 : Nat → Nat → Int32) (w2 : Int32), lb_X12_schedule_68_65 n I A J t x1 x2 I43 A43 v43_3 v43_4 I53 A53 v53_5 f I65 A65 v65_6 → (lp_X12_schedule_68_65 n I A J t x1 x2 I43 A43 v43_3 v43_4 I53 A53 v53_5 f I65 A65 v65_6).1 = w0 → (lp_X12_schedule_68_65 n I A J t x1 x2 I43 A43 v43_3 v43_4 I53 A53 v53_5 f I65 A65 v65_6).2.1 = w1 → (lp_X12_schedule_68_65 n I A J t x1 x2 I43 A43 v43_3 v43_4 I53 A53 v53_5 f I65 A65 v65_6).2.2 = w2 → Ev g mX12_schedule 0 0 92 [some (.ref (cw_z g + 68)), some (.int x1), some (.int x2), some (.int v43_3), some (.int v43_4), some (.int v53_5), some (.int w2)] [] (hp g w0 w1 J t) Q → Ev g mX12_schedule 0 0 65 [some (.ref (cw_z g + 68)), some (.int x1), some (.int x2), some (.int v43_3), some (.int v43_4), some (.int v53_5), some (.int v65_6)] [] (hp g I65 A65 J t) Q := by
  intro f
  induction f with
  | zero =>
    intro I65 A65 v65_6 w0 w1 w2 hb
    exact hb.elim
  | succ f ih =>
    intro I65 A65 v65_6 w0 w1 w2 hb h0 h1 h2 hE
    rw [lb_X12_schedule_68_65] at hb
    rw [lp_X12_schedule_68_65] at h0 h1 h2
    refine ev_iload (pc := 65) dX12_schedule_65 rfl ?_
    refine ev_aload_n (pc := 67) dX12_schedule_67 rfl ?_
    refine tv_geti (pc := 68) dX12_schedule_68 fl_X12_289 (by decide) rfl rfl ?_
    have hF_71 := hb
    refine ev_icmp_ge (pc := 71) (tgt := 92) dX12_schedule_71 (by decide) (fun c_71 => ?_) (fun c_71 => ?_)
    · try simp only [if_pos c_71] at h0
      try simp only [if_pos c_71] at h1
      try simp only [if_pos c_71] at h2
      subst h0
      subst h1
      subst h2
      exact ev_loc hE cw_le0
    · have hb := hF_71 c_71
      try simp only [if_neg c_71] at h0
      try simp only [if_neg c_71] at h1
      try simp only [if_neg c_71] at h2
      refine ev_aload_n (pc := 74) dX12_schedule_74 rfl ?_
      refine ev_iload (pc := 75) dX12_schedule_75 rfl ?_
      refine ev_iload (pc := 77) dX12_schedule_77 rfl ?_
      refine ev_iload_n (pc := 79) dX12_schedule_79 rfl ?_
      refine ev_iload (pc := 80) dX12_schedule_80 rfl ?_
      refine ev_iload_n (pc := 82) dX12_schedule_82 rfl ?_
      refine ev_Vv (pc := 83) dX12_schedule_83 lk_X12_368 cd_X12_fits ar_X12_fits ⟨by decide, rfl, rfl⟩ (cv_X12_fits_68 g n I65 A65 J t v53_5 v65_6 x1 v43_4 x2 hb.1) (show 68 < 120 by decide) rfl rfl rfl rfl (Nat.le_of_ble_eq_true rfl) ⟨by decide, by decide⟩ ?_
      replace hb := hb.2
      refine ev_iinc_6 (pc := 86) (v := (q86_X12_schedule_68 n I A J t x1 x2 I43 A43 v43_3 v43_4 I53 A53 v53_5 I65 A65 v65_6)) dX12_schedule_86 (by decide) rfl rfl ?_
      refine ev_goto (pc := 89) (tgt := 65) dX12_schedule_89 (by decide) ?_
      exact ev_loc (ih (pI_X12_fits_68 n I65 A65 J t v53_5 v65_6 x1 v43_4 x2) (pA_X12_fits_68 n I65 A65 J t v53_5 v65_6 x1 v43_4 x2) (q86_X12_schedule_68 n I A J t x1 x2 I43 A43 v43_3 v43_4 I53 A53 v53_5 I65 A65 v65_6) w0 w1 w2 hb h0 h1 h2 hE) cw_le0

set_option maxRecDepth 100000 in
set_option maxHeartbeats 4000000 in
theorem lt_X12_schedule_68_53 (g : cw_G) (n : Nat) (I : Nat → Nat → Int32) (A : Nat → Nat → Int32) (J : Nat → Nat → Int64) (t : Bool × Bool) (x1 : Int32) (x2 : Int32) (I43 : Nat → Nat → Int32) (A43 : Nat → Nat → Int32) (v43_3 : Int32) (v43_4 : Int32) {Q : Option Value → cw_H → Prop} : ∀ (f : Nat) (I53 : Nat → Nat → Int32) (A53 : Nat → Nat → Int32) (v53_5 : Int32) (w0 : Nat → Nat → Int32) (w1 : Nat → Nat → Int32) (w2 : Int32), lb_X12_schedule_68_53 n I A J t x1 x2 I43 A43 v43_3 v43_4 f I53 A53 v53_5 → (lp_X12_schedule_68_53 n I A J t x1 x2 I43 A43 v43_3 v43_4 f I53 A53 v53_5).1 = w0 → (lp_X12_schedule_68_53 n I A J t x1 x2 I43 A43 v43_3 v43_4 f I53 A53 v53_5).2.1 = w1 → (lp_X12_schedule_68_53 n I A J t x1 x2 I43 A43 v43_3 v43_4 f I53 A53 v53_5).2.2 = w2 → Ev g mX12_schedule 0 0 98 [some (.ref (cw_z g + 68)), some (.int x1), some (.int x2), some (.int v43_3), some (.int v43_4), some (.int w2), none] [] (hp g w0 w1 J t) Q → Ev g mX12_schedule 0 0 53 [some (.ref (cw_z g + 68)), some (.int x1), some (.int x2), some (.int v43_3), some (.int v43_4), some (.int v53_5), none] [] (hp g I53 A53 J t) Q := by
  intro f
  induction f with
  | zero =>
    intro I53 A53 v53_5 w0 w1 w2 hb
    exact hb.elim
  | succ f ih =>
    intro I53 A53 v53_5 w0 w1 w2 hb h0 h1 h2 hE
    rw [lb_X12_schedule_68_53] at hb
    rw [lp_X12_schedule_68_53] at h0 h1 h2
    refine ev_iload (pc := 53) dX12_schedule_53 rfl ?_
    refine ev_aload_n (pc := 55) dX12_schedule_55 rfl ?_
    refine tv_geti (pc := 56) dX12_schedule_56 fl_X12_295 (by decide) rfl rfl ?_
    have hF_59 := hb
    refine ev_icmp_ge (pc := 59) (tgt := 98) dX12_schedule_59 (by decide) (fun c_59 => ?_) (fun c_59 => ?_)
    · try simp only [if_pos c_59] at h0
      try simp only [if_pos c_59] at h1
      try simp only [if_pos c_59] at h2
      subst h0
      subst h1
      subst h2
      exact ev_loc hE cw_le0
    · have hb := hF_59 c_59
      try simp only [if_neg c_59] at h0
      try simp only [if_neg c_59] at h1
      try simp only [if_neg c_59] at h2
      refine ev_iconst (pc := 62) (v := 0) dX12_schedule_62 (by decide) ?_
      refine ev_istore_6 (pc := 63) dX12_schedule_63 (by decide) rfl ?_
      refine lt_X12_schedule_68_65 g n I A J t x1 x2 I43 A43 v43_3 v43_4 I53 A53 v53_5 n I53 A53 0 (qIw65_X12_schedule_68 n I A J t x1 x2 I43 A43 v43_3 v43_4 I53 A53 v53_5) (qAw65_X12_schedule_68 n I A J t x1 x2 I43 A43 v43_3 v43_4 I53 A53 v53_5) (q6w65_X12_schedule_68 n I A J t x1 x2 I43 A43 v43_3 v43_4 I53 A53 v53_5) hb.1 rfl rfl rfl ?_
      replace hb := hb.2
      refine ev_iinc_5 (pc := 92) (v := (q92_X12_schedule_68 n I A J t x1 x2 I43 A43 v43_3 v43_4 I53 A53 v53_5)) dX12_schedule_92 (by decide) rfl rfl ?_
      refine ev_goto (pc := 95) (tgt := 53) dX12_schedule_95 (by decide) ?_
      exact ev_loc (ih (qIw65_X12_schedule_68 n I A J t x1 x2 I43 A43 v43_3 v43_4 I53 A53 v53_5) (qAw65_X12_schedule_68 n I A J t x1 x2 I43 A43 v43_3 v43_4 I53 A53 v53_5) (q92_X12_schedule_68 n I A J t x1 x2 I43 A43 v43_3 v43_4 I53 A53 v53_5) w0 w1 w2 hb h0 h1 h2 hE) (cw_leS (cw_leS (cw_leS (cw_leS (cw_leS (cw_leS (cw_leN cw_le0)))))))

set_option maxRecDepth 100000 in
set_option maxHeartbeats 4000000 in
theorem lt_X12_schedule_68_43 (g : cw_G) (n : Nat) (I : Nat → Nat → Int32) (A : Nat → Nat → Int32) (J : Nat → Nat → Int64) (t : Bool × Bool) (x1 : Int32) (x2 : Int32) {Q : Option Value → cw_H → Prop} : ∀ (f : Nat) (I43 : Nat → Nat → Int32) (A43 : Nat → Nat → Int32) (v43_3 : Int32) (v43_4 : Int32) (w0 : Nat → Nat → Int32) (w1 : Nat → Nat → Int32) (w2 : Int32) (w3 : Int32), lb_X12_schedule_68_43 n I A J t x1 x2 f I43 A43 v43_3 v43_4 → (lp_X12_schedule_68_43 n I A J t x1 x2 f I43 A43 v43_3 v43_4).1 = w0 → (lp_X12_schedule_68_43 n I A J t x1 x2 f I43 A43 v43_3 v43_4).2.1 = w1 → (lp_X12_schedule_68_43 n I A J t x1 x2 f I43 A43 v43_3 v43_4).2.2.1 = w2 → (lp_X12_schedule_68_43 n I A J t x1 x2 f I43 A43 v43_3 v43_4).2.2.2 = w3 → Ev g mX12_schedule 0 0 120 [some (.ref (cw_z g + 68)), some (.int x1), some (.int x2), some (.int w2), some (.int w3), none, none] [] (hp g w0 w1 J t) Q → Ev g mX12_schedule 0 0 43 [some (.ref (cw_z g + 68)), some (.int x1), some (.int x2), some (.int v43_3), some (.int v43_4), none, none] [] (hp g I43 A43 J t) Q := by
  intro f
  induction f with
  | zero =>
    intro I43 A43 v43_3 v43_4 w0 w1 w2 w3 hb
    exact hb.elim
  | succ f ih =>
    intro I43 A43 v43_3 v43_4 w0 w1 w2 w3 hb h0 h1 h2 h3 hE
    rw [lb_X12_schedule_68_43] at hb
    rw [lp_X12_schedule_68_43] at h0 h1 h2 h3
    refine ev_iload (pc := 43) dX12_schedule_43 rfl ?_
    refine ev_bipush (pc := 45) (v := 24) dX12_schedule_45 (by decide) ?_
    have hF_47 := hb
    refine ev_icmp_ge (pc := 47) (tgt := 120) dX12_schedule_47 (by decide) (fun c_47 => ?_) (fun c_47 => ?_)
    · try simp only [if_pos c_47] at h0
      try simp only [if_pos c_47] at h1
      try simp only [if_pos c_47] at h2
      try simp only [if_pos c_47] at h3
      subst h0
      subst h1
      subst h2
      subst h3
      exact ev_loc hE cw_le0
    · have hb := hF_47 c_47
      try simp only [if_neg c_47] at h0
      try simp only [if_neg c_47] at h1
      try simp only [if_neg c_47] at h2
      try simp only [if_neg c_47] at h3
      refine ev_iconst (pc := 50) (v := 0) dX12_schedule_50 (by decide) ?_
      refine ev_istore_5 (pc := 51) dX12_schedule_51 (by decide) rfl ?_
      refine lt_X12_schedule_68_53 g n I A J t x1 x2 I43 A43 v43_3 v43_4 n I43 A43 0 (qIw53_X12_schedule_68 n I A J t x1 x2 I43 A43 v43_3 v43_4) (qAw53_X12_schedule_68 n I A J t x1 x2 I43 A43 v43_3 v43_4) (q5w53_X12_schedule_68 n I A J t x1 x2 I43 A43 v43_3 v43_4) hb.1 rfl rfl rfl ?_
      replace hb := hb.2
      refine ev_aload_n (pc := 98) dX12_schedule_98 rfl ?_
      refine ev_iload (pc := 99) dX12_schedule_99 rfl ?_
      refine ev_Vv (pc := 101) dX12_schedule_101 lk_X12_372 cd_X12_lays ar_X12_lays ⟨by decide, rfl, rfl⟩ (cv_X12_lays_68 g n (qIw53_X12_schedule_68 n I A J t x1 x2 I43 A43 v43_3 v43_4) (qAw53_X12_schedule_68 n I A J t x1 x2 I43 A43 v43_3 v43_4) J t v43_4 hb.1) (show 68 < 120 by decide) rfl rfl rfl rfl (Nat.le_of_ble_eq_true rfl) ⟨by decide, by decide⟩ ?_
      replace hb := hb.2
      refine ev_iload_n (pc := 104) dX12_schedule_104 rfl ?_
      refine ev_aload_n (pc := 105) dX12_schedule_105 rfl ?_
      refine tv_getr (pc := 106) (d := 113) dX12_schedule_106 fl_X12_152 (by decide) rfl rfl ?_
      refine ev_iload (pc := 109) dX12_schedule_109 rfl ?_
      refine ev_iald (pc := 111) dX12_schedule_111 (by decide) rfl hb.1 ?_
      replace hb := hb.2
      refine ev_iadd (pc := 112) dX12_schedule_112 ?_
      refine ev_is (y := (q113_X12_schedule_68 n I A J t x1 x2 I43 A43 v43_3 v43_4)) rfl ?_
      refine ev_istore_3 (pc := 113) dX12_schedule_113 (by decide) rfl ?_
      refine ev_iinc_4 (pc := 114) (v := (q114_X12_schedule_68 n I A J t x1 x2 I43 A43 v43_3 v43_4)) dX12_schedule_114 (by decide) rfl rfl ?_
      refine ev_goto (pc := 117) (tgt := 43) dX12_schedule_117 (by decide) ?_
      exact ev_loc (ih (qIw53_X12_schedule_68 n I A J t x1 x2 I43 A43 v43_3 v43_4) (pA_X12_lays_68 n (qIw53_X12_schedule_68 n I A J t x1 x2 I43 A43 v43_3 v43_4) (qAw53_X12_schedule_68 n I A J t x1 x2 I43 A43 v43_3 v43_4) J t v43_4) (q113_X12_schedule_68 n I A J t x1 x2 I43 A43 v43_3 v43_4) (q114_X12_schedule_68 n I A J t x1 x2 I43 A43 v43_3 v43_4) w0 w1 w2 w3 hb h0 h1 h2 h3 hE) (cw_leS (cw_leS (cw_leS (cw_leS (cw_leS (cw_leN cw_le0))))))

set_option maxRecDepth 100000 in
set_option maxHeartbeats 4000000 in
theorem cv_X12_schedule_68 (g : cw_G) (n : Nat) (I : Nat → Nat → Int32) (A : Nat → Nat → Int32) (J : Nat → Nat → Int64) (t : Bool × Bool) (x1 : Int32) (x2 : Int32) (hb : pb_X12_schedule_68 n I A J t x1 x2) : Cd g mX12_schedule [(.ref (cw_z g + 68)), (.int x1), (.int x2)] (hp g I A J t) (some (.int (px_X12_schedule_68 n I A J t x1 x2))) (hp g (pI_X12_schedule_68 n I A J t x1 x2) (pA_X12_schedule_68 n I A J t x1 x2) J t) := by
  unfold pb_X12_schedule_68 at hb
  unfold px_X12_schedule_68 pI_X12_schedule_68 pA_X12_schedule_68
  refine Cd.of rfl (Nat.le_of_ble_eq_true rfl) (ev_gen (fun Q hQ => ?_))
  refine ev_iload_n (pc := 0) dX12_schedule_0 rfl ?_
  refine ev_Si (pc := 1) dX12_schedule_1 lk_X12_304 cd_X12_isDay ar_X12_isDay ⟨by decide, rfl, rfl⟩ (cv_X12_isDay g n I A J t x1) rfl rfl (Nat.le_of_ble_eq_true rfl) ⟨by decide, by decide⟩ ?_
  have hF_4 := hb
  refine ev_if_eq (pc := 4) (tgt := 15) dX12_schedule_4 (by decide) (fun c_4 => ?_) (fun c_4 => ?_)
  · try simp only [if_pos c_4] at hQ
    refine ev_iconst (pc := 15) (v := (-1)) dX12_schedule_15 (by decide) ?_
    exact ev_iret (pc := 16) dX12_schedule_16 rfl (by decide) (by decide) (hQ _ _ ⟨rfl, rfl⟩)
  · have hb := hF_4 c_4
    try simp only [if_neg c_4] at hQ
    refine ev_aload_n (pc := 7) dX12_schedule_7 rfl ?_
    refine ev_iload_n (pc := 8) dX12_schedule_8 rfl ?_
    refine ev_Vi (pc := 9) dX12_schedule_9 lk_X12_337 cd_X12_isKnown ar_X12_isKnown ⟨by decide, rfl, rfl⟩ (cv_X12_isKnown_68 g n I A J t x2) (show 68 < 120 by decide) rfl rfl rfl rfl (Nat.le_of_ble_eq_true rfl) ⟨by decide, by decide⟩ ?_
    have hT_12 := hb
    refine ev_if_ne (pc := 12) (tgt := 17) dX12_schedule_12 (by decide) (fun c_12 => ?_) (fun c_12 => ?_)
    · have hb := hT_12 c_12
      try simp only [if_neg c_12] at hQ
      refine ev_iconst (pc := 17) (v := 0) dX12_schedule_17 (by decide) ?_
      refine ev_istore_3 (pc := 18) dX12_schedule_18 (by decide) rfl ?_
      refine lt_X12_schedule_68_19 g n I A J t x1 x2 n A 0 (qAw19_X12_schedule_68 n I A J t x1 x2) (q3w19_X12_schedule_68 n I A J t x1 x2) hb.1 rfl rfl ?_
      replace hb := hb.2
      refine ev_iconst (pc := 38) (v := 0) dX12_schedule_38 (by decide) ?_
      refine ev_istore_3 (pc := 39) dX12_schedule_39 (by decide) rfl ?_
      refine ev_iconst (pc := 40) (v := 0) dX12_schedule_40 (by decide) ?_
      refine ev_istore_4 (pc := 41) dX12_schedule_41 (by decide) rfl ?_
      refine lt_X12_schedule_68_43 g n I A J t x1 x2 n I (qAw19_X12_schedule_68 n I A J t x1 x2) 0 0 (qIw43_X12_schedule_68 n I A J t x1 x2) (qAw43_X12_schedule_68 n I A J t x1 x2) (q3w43_X12_schedule_68 n I A J t x1 x2) (q4w43_X12_schedule_68 n I A J t x1 x2) hb rfl rfl rfl rfl ?_
      refine ev_aload_n (pc := 120) dX12_schedule_120 rfl ?_
      refine ev_iconst (pc := 121) (v := 1) dX12_schedule_121 (by decide) ?_
      refine tw_putz (pc := 122) (I2 := (qI122_X12_schedule_68 n I A J t x1 x2)) dX12_schedule_122 fp_X12_375 (by decide) rfl rfl (by simp) rfl ?_
      refine ev_aload_n (pc := 125) dX12_schedule_125 rfl ?_
      refine ev_aload_n (pc := 126) dX12_schedule_126 rfl ?_
      refine tv_geti (pc := 127) dX12_schedule_127 fl_X12_295 (by decide) rfl rfl ?_
      refine tw_puti (pc := 130) (I2 := (qI130_X12_schedule_68 n I A J t x1 x2)) dX12_schedule_130 fp_X12_379 (by decide) rfl rfl rfl ?_
      refine ev_iload_n (pc := 133) dX12_schedule_133 rfl ?_
      exact ev_iret (pc := 134) dX12_schedule_134 rfl (by decide) (by decide) (hQ _ _ ⟨rfl, rfl⟩)
    · try simp only [if_pos c_12] at hQ
      refine ev_iconst (pc := 15) (v := (-1)) dX12_schedule_15 (by decide) ?_
      exact ev_iret (pc := 16) dX12_schedule_16 rfl (by decide) (by decide) (hQ _ _ ⟨rfl, rfl⟩)
