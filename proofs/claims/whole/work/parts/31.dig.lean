/-! ===== the hash of a state ===== -/
def mx (h v : Int64) : Int64 := 31 * h + v
def mxN (F : Nat → Int64) (h : Int64) : Nat → Int64
  | 0 => h
  | k + 1 => mx (mxN F h k) (F k)
def plQ (st : Nat → Int32) (i q : Nat) : Int64 := (placeF st i (q / 4) (q % 4)).toInt64
theorem plQ_at (st : Nat → Int32) (i j : Nat) {w : Nat} (h : w < 4) : plQ st i (4 * j + w) = (placeF st i j w).toInt64 := by
  unfold plQ
  rw [show (4 * j + w) / 4 = j by omega, show (4 * j + w) % 4 = w by omega]
abbrev dgW (st : Nat → Int32) (i : Nat) (h : Int64) (k : Nat) : Int64 := mxN (fun w => (cordF st i w).toInt64) h k
abbrev dgP (st : Nat → Int32) (i : Nat) (h : Int64) (k : Nat) : Int64 := mxN (plQ st i) (dgW st i h 8) k
abbrev dgR (st : Nat → Int32) (i : Nat) (h : Int64) (k : Nat) : Int64 := mxN (fun r => (partF st i (nI r)).toInt64) (dgP st i h 24) k
def dgC (st : Nat → Int32) (i : Nat) (h : Int64) : Int64 := mx (mx (dgR st i h (cm st i)) (cRop st i 999).toInt64) (nI (hoN 95 (st 5) 16 (fK st i) (fL st i) (cm st i))).toInt64
def dgN (st : Nat → Int32) (h : Int64) : Nat → Int64
  | 0 => h
  | k + 1 => dgC st k (dgN st h k)
abbrev dg1 (st : Nat → Int32) (sz k : Nat) : Int64 := mxN (fun w => (countF st sz w).toInt64) 3673 k
abbrev dg3 (st : Nat → Int32) (sz k : Nat) : Int64 := mxN (fun h => (sumN (hueN st (nI h)) 7).toInt64) (dgN st (dg1 st sz 10) 7) k
def dg4 (st : Nat → Int32) (sz : Nat) : Int64 := mx (mx (mx (mx (dg3 st sz 6) (forF (cTold st) 95 0).toInt64) (forF (cTold st) 95 1).toInt64) (forF (cTold st) 1234 0).toInt64) (forF (cTold st) 1234 1).toInt64
def dg6 (st : Nat → Int32) (sz : Nat) : Int64 := mx (mx (dg4 st sz) (nI (fulN st 6)).toInt64) (bitsF (shaF (10 * sumN (allL st) 7) (sumN (allK st) 7)))
abbrev dg7 (st : Nat → Int32) (sz : Nat) (ns : Nat → Option Nat) (k : Nat) : Int64 := mxN (fun j => if (ns j).isSome then 1 else 0) (dg6 st sz) k
abbrev dg9 (st : Nat → Int32) (sz : Nat) (ns : Nat → Option Nat) (bu : Nat → Int32) (ln k : Nat) : Int64 := mxN (fun q => (bu q).toInt64) (mx (dg7 st sz ns 2) (nI ln).toInt64) k
