theorem sE.countF' {st s : Nat → Int32} (h : sE st s) (hpc : pcOK st) (sz : Nat) {w : Nat} (hw : w < 10) : countF st sz w = countF s sz w := by
  obtain rfl | rfl | rfl | rfl | rfl | rfl | rfl | rfl | rfl | rfl : w = 0 ∨ w = 1 ∨ w = 2 ∨ w = 3 ∨ w = 4 ∨ w = 5 ∨ w = 6 ∨ w = 7 ∨ w = 8 ∨ w = 9 := by omega
  · show sumN (cTold st) 7 = sumN (cTold s) 7; exact (h.countA hpc).1
  · show sumN (allK st) 7 + sumN (allL st) 7 = sumN (allK s) 7 + sumN (allL s) 7; exact (h.countA hpc).2.1
  · show st 0 = s 0; exact h.c (x := 0) (by decide)
  · show st 1 = s 1; exact h.c (x := 1) (by decide)
  · show st 2 = s 2; exact h.c (x := 2) (by decide)
  · show st 3 = s 3; exact h.c (x := 3) (by decide)
  · show st 4 = s 4; exact h.c (x := 4) (by decide)
  · show sumN (lackN st) 7 = sumN (lackN s) 7; exact (h.countA hpc).2.2
  · show st 5 = s 5; exact h.c (x := 5) (by decide)
  · show nI sz = nI sz; rfl
