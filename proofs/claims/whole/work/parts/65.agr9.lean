section
variable {st s : Nat → Int32}
theorem sE.cordF' (h : sE st s) (hpc : pcOK st) {i w : Nat} (hi : i < 7) (hw : w < 8) : cordF st i w = cordF s i w := by
  obtain rfl | rfl | rfl | rfl | rfl | rfl | rfl | rfl : w = 0 ∨ w = 1 ∨ w = 2 ∨ w = 3 ∨ w = 4 ∨ w = 5 ∨ w = 6 ∨ w = 7 := by omega
  · exact h.to hi
  · exact h.pa hpc hi
  · exact h.f hi (j := 1) (by decide) (Or.inl (by decide))
  · exact h.la hpc hi
  · exact h.ti hi
  · exact sumN_congr (m := 6) (h.L hi)
  · exact h.f hi (j := 0) (by decide) (Or.inl (by decide))
  · exact h.f hi (j := 2) (by decide) (Or.inl (by decide))
theorem sE.placeF' (h : sE st s) {i j w : Nat} (hi : i < 7) (hj : j < 6) (hw : w < 4) : placeF st i j w = placeF s i j w := by
  obtain rfl | rfl | rfl | rfl : w = 0 ∨ w = 1 ∨ w = 2 ∨ w = 3 := by omega
  · exact h.K hi j hj
  · exact h.L hi j hj
  · exact opn_congr (h.K hi) (h.L hi) hj
  · show (if 0 < st 5 - (fK st i j + fL st i j) then st 5 - (fK st i j + fL st i j) else 0) = if 0 < s 5 - (fK s i j + fL s i j) then s 5 - (fK s i j + fL s i j) else 0
    rw [h.K hi j hj, h.L hi j hj, h.c (x := 5) (by decide)]
theorem sE.partF' (h : sE st s) (hpc : pcOK st) {i : Nat} (hi : i < 7) {r : Int32} (hr : 0 ≤ r) : partF st i r = partF s i r := by
  unfold partF
  rw [← h.m hi]
  by_cases c : r < nI (cm st i)
  · rw [if_pos c, if_pos c]
    exact h.p hi (nat_lt hr c (by have := (hpc i hi).2; omega)) (hpc i hi).2
  · rw [if_neg c, if_neg c]
theorem sE.hueN' (h : sE st s) (hu : Int32) : sumN (hueN st hu) 7 = sumN (hueN s hu) 7 := sumN_congr (fun k hk => by
  show (if st (6 + 31 * k + 0) = hu then cTold st k else 0) = if s (6 + 31 * k + 0) = hu then cTold s k else 0
  rw [h.f hk (j := 0) (by decide) (Or.inl (by decide)), h.to hk])
theorem sE.fulN' (h : sE st s) : ∀ k, k ≤ 6 → fulN st k = fulN s k
  | 0, _ => rfl
  | k + 1, hk => by
    show (if cTies st (k + 1) ≤ cTies st (fulN st k) then fulN st k else k + 1) = if cTies s (k + 1) ≤ cTies s (fulN s k) then fulN s k else k + 1
    have hl := fulN_le st k
    rw [h.ti (i := k + 1) (by omega), h.ti (i := fulN st k) (by omega), h.fulN' k (by omega)]
theorem sE.hoN' (h : sE st s) {i : Nat} (hi : i < 7) (num : Int32) (f : Nat) : hoN num (st 5) f (fK st i) (fL st i) (cm st i) = hoN num (s 5) f (fK s i) (fL s i) (cm s i) := by
  rw [h.c (x := 5) (by decide), h.m hi]
  exact hoN_congr num (s 5) f (h.K hi) (h.L hi)
theorem sE.countA (h : sE st s) (hpc : pcOK st) : sumN (cTold st) 7 = sumN (cTold s) 7 ∧ sumN (allK st) 7 + sumN (allL st) 7 = sumN (allK s) 7 + sumN (allL s) 7 ∧ sumN (lackN st) 7 = sumN (lackN s) 7 := by
  refine ⟨sumN_congr (fun k hk => h.to hk), ?_, sumN_congr (fun k hk => ?_)⟩
  · rw [ties_all, ties_all]
    exact sumN_congr (fun k hk => h.ti hk)
  · show (if cLack st k ≤ 0 then (0 : Int32) else 1) = if cLack s k ≤ 0 then 0 else 1
    rw [h.la hpc hk]
end
