/-- class and reference hash the same -/
theorem dg_eq {st s : Nat → Int32} (h : sE st s) (hpc : pcOK st) (ht : tlOK (cTold st)) (ha : 0 ≤ (10 * sumN (allL st) 7).toInt) (hb : 0 ≤ (sumN (allK st) 7).toInt) {sz ln : Nat} {ns : Nat → Option Nat} {bu ik tx : Nat → Int32} (hik : ∀ j, j < 2 → ik j = if (ns j).isSome then 1 else 0) (htx : ∀ q, q < ln → bu q = tx q) :
    dg9 st sz ns bu ln ln = dm9 s (nI sz) 1022 ik tx ln ln := by
  have e1 : dg1 st sz 10 = dm1 s (nI sz) 10 := mxN_congr (fun w hw => by
    show (countF st sz w).toInt64 = (cntM s (nI sz) w).toInt64
    rw [cnt_eq s sz hw, h.countF' hpc sz hw])
  have e2 : dgN st (dg1 st sz 10) 7 = dmN s (dm1 s (nI sz) 10) 7 := by rw [e1]; exact h.dN hpc _ 7 (Nat.le_refl _)
  have e3 : dg3 st sz 6 = dm3 s (nI sz) 6 := by
    show mxN (fun u => (sumN (hueN st (nI u)) 7).toInt64) (dgN st (dg1 st sz 10) 7) 6 = mxN (fun u => (sumN (hueN s (nI u)) 7).toInt64) (dmN s (dm1 s (nI sz) 10) 7) 6
    rw [e2]
    exact mxN_congr (fun u _ => by
      show (sumN (hueN st (nI u)) 7).toInt64 = (sumN (hueN s (nI u)) 7).toInt64
      rw [h.hueN'])
  have f1 : ∀ w, forF (cTold st) 95 w = sfF s 95 127 := fun w => (for_sf ht (by decide) (by decide) w).trans (h.sfS 95 127)
  have f2 : ∀ w, forF (cTold st) 1234 w = sfF s 1234 127 := fun w => (for_sf ht (by decide) (by decide) w).trans (h.sfS 1234 127)
  have e4 : dg4 st sz = dm4 s (nI sz) := by
    unfold dg4 dm4
    rw [e3, f1, f1, f2, f2]
  have s1 : shA s = 10 * sumN (allL st) 7 := by
    rw [shA_eq]
    exact congrArg (fun z => 10 * z) (sumN_congr (fun k hk => (sumN_congr (m := 6) (h.L hk)).symm))
  have s2 : shB s = sumN (allK st) 7 := by
    rw [shB_eq]
    exact sumN_congr (fun k hk => (sumN_congr (m := 6) (h.K hk)).symm)
  have e6 : dg6 st sz = dm6 s (nI sz) 1022 := by
    unfold dg6 dm6
    rw [e4, h.fulN' 6 (Nat.le_refl _), s1, s2, (bits_eq ha hb).1]
  have i0 := hik 0 (by decide)
  have i1 := hik 1 (by decide)
  have k01 : ∀ o : Option Nat, (if (if o.isSome then (1 : Int32) else 0) = 0 then (0 : Int64) else 1) = if o.isSome then 1 else 0 := by
    intro o
    cases o <;> rfl
  have e8 : dg7 st sz ns 2 = dm8 s (nI sz) 1022 ik := by
    show mx (mx (dg6 st sz) (if (ns 0).isSome then 1 else 0)) (if (ns 1).isSome then 1 else 0) = mx (mx (dm6 s (nI sz) 1022) (if ik 0 = 0 then 0 else 1)) (if ik 1 = 0 then 0 else 1)
    rw [i0, i1, k01, k01, e6]
  show mxN (fun q => (bu q).toInt64) (mx (dg7 st sz ns 2) (nI ln).toInt64) ln = mxN (fun q => (tx q).toInt64) (mx (dm8 s (nI sz) 1022 ik) (nI ln).toInt64) ln
  rw [e8]
  exact mxN_congr (fun q hq => by
    show (bu q).toInt64 = (tx q).toInt64
    rw [htx q hq])
