def shA (st : Nat → Int32) : Int32 := sumN (fun c => 10 * sumN (fL st c) 6) 7
def shB (st : Nat → Int32) : Int32 := sumN (fun c => cTies st c - sumN (fL st c) 6) 7
def bitsM (d : UInt64) (k : Nat) : Int64 := if Op.cmpValue (FP.dcmp d FP.dconst0) CmpOp.l = 0 then 0 else expL (nD d k) * 4503599627370496 + fracD (itD d (nD d k))
abbrev dmW (st : Nat → Int32) (i : Nat) (h : Int64) (k : Nat) : Int64 := mxN (fun w => (cordF st i w).toInt64) h k
abbrev dmR (st : Nat → Int32) (i : Nat) (h : Int64) (k : Nat) : Int64 := mxN (fun r => (fP st i r).toInt64) (dgP st i h 24) k
def dmC (st : Nat → Int32) (i : Nat) (h : Int64) : Int64 := mx (mx (dmR st i h (cm st i)) (cRop st i 999).toInt64) (nI (hoM i 95 (16 - cm st i) st)).toInt64
def dmN (st : Nat → Int32) (h : Int64) : Nat → Int64
  | 0 => h
  | k + 1 => dmC st k (dmN st h k)
abbrev dm1 (st : Nat → Int32) (sm : Int32) (k : Nat) : Int64 := mxN (fun w => (cntM st sm w).toInt64) 3673 k
abbrev dm3 (st : Nat → Int32) (sm : Int32) (k : Nat) : Int64 := mxN (fun h => (sumN (hueN st (nI h)) 7).toInt64) (dmN st (dm1 st sm 10) 7) k
def dm4 (st : Nat → Int32) (sm : Int32) : Int64 := mx (mx (mx (mx (dm3 st sm 6) (sfF st 95 127).toInt64) (sfF st 95 127).toInt64) (sfF st 1234 127).toInt64) (sfF st 1234 127).toInt64
def dm6 (st : Nat → Int32) (sm : Int32) (bz : Nat) : Int64 := mx (mx (dm4 st sm) (nI (fulN st 6)).toInt64) (bitsM (shaF (shA st) (shB st)) bz)
def dm8 (st : Nat → Int32) (sm : Int32) (bz : Nat) (ik : Nat → Int32) : Int64 := mx (mx (dm6 st sm bz) (if ik 0 = 0 then 0 else 1)) (if ik 1 = 0 then 0 else 1)
abbrev dm9 (st : Nat → Int32) (sm : Int32) (bz : Nat) (ik tx : Nat → Int32) (lw k : Nat) : Int64 := mxN (fun q => (tx q).toInt64) (mx (dm8 st sm bz ik) (nI lw).toInt64) k
theorem nD_le (d : UInt64) : ∀ k, nD d k ≤ k
  | 0 => Nat.le_refl _
  | k + 1 => by
    have := nD_le d k
    show (if _ then _ else _) ≤ _
    split
    · exact Nat.succ_le_succ this
    · exact Nat.le_succ_of_le this
theorem lL_inj (a b : Int64) : a = b → b = a := Eq.symm
