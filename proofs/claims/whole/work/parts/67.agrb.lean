theorem mxN_congr {F G : Nat → Int64} {h : Int64} : ∀ {m : Nat}, (∀ k, k < m → F k = G k) → mxN F h m = mxN G h m
  | 0, _ => rfl
  | m + 1, e => by
    show mx (mxN F h m) (F m) = mx (mxN G h m) (G m)
    rw [mxN_congr (fun k hk => e k (by omega)), e m (by omega)]
section
variable {st s : Nat → Int32}
theorem sE.tb (h : sE st s) (zm : Int32) : tbF st zm = tbF s zm := sumN_congr (fun k hk => by
  show bitI zm (nI k) * cTold st k = bitI zm (nI k) * cTold s k
  rw [h.to hk])
theorem sE.sfS (h : sE st s) (sum : Int32) : ∀ k, sfF st sum k = sfF s sum k
  | 0 => rfl
  | k + 1 => by
    show (if tbF st (nI (k + 1)) = sum ∧ (sfF st sum k = -1 ∨ mnF (nI (k + 1)) < mnF (sfF st sum k)) then nI (k + 1) else sfF st sum k) = if tbF s (nI (k + 1)) = sum ∧ (sfF s sum k = -1 ∨ mnF (nI (k + 1)) < mnF (sfF s sum k)) then nI (k + 1) else sfF s sum k
    rw [h.tb, h.sfS sum k]
theorem sE.dC (h : sE st s) (hpc : pcOK st) {i : Nat} (hi : i < 7) (d : Int64) : dgC st i d = dmC s i d := by
  have hm := (hpc i hi).2
  have e1 : dgW st i d 8 = dgW s i d 8 := mxN_congr (fun k hk => by show (cordF st i k).toInt64 = (cordF s i k).toInt64; rw [h.cordF' hpc hi hk])
  have e2 : dgP st i d 24 = dgP s i d 24 := by
    show mxN (plQ st i) (dgW st i d 8) 24 = mxN (plQ s i) (dgW s i d 8) 24
    rw [e1]
    exact mxN_congr (fun q hq => by
      show (placeF st i (q / 4) (q % 4)).toInt64 = (placeF s i (q / 4) (q % 4)).toInt64
      rw [h.placeF' hi (by omega) (Nat.mod_lt _ (by decide))])
  have e3 : dgR st i d (cm st i) = dmR s i d (cm s i) := by
    show mxN (fun r => (partF st i (nI r)).toInt64) (dgP st i d 24) (cm st i) = mxN (fun r => (fP s i r).toInt64) (dgP s i d 24) (cm s i)
    rw [e2, ← h.m hi]
    refine mxN_congr (fun k hk => ?_)
    show (partF st i (nI k)).toInt64 = (fP s i k).toInt64
    have : partF st i (nI k) = fP st i k := by
      unfold partF
      rw [if_pos (nI_lt hk (by omega)), nI_clamp (by omega)]
    rw [this]
    exact congrArg Int32.toInt64 (h.p hi hk hm)
  have e4 : cRop st i 999 = cRop s i 999 := h.ro hi 999
  have e5 : hoN 95 (st 5) 16 (fK st i) (fL st i) (cm st i) = hoM i 95 (16 - cm s i) s := by
    rw [h.hoN' hi, hoM_16 (by rw [← h.m hi]; exact hm)]
  unfold dgC dmC
  rw [e3, e4, e5]
theorem sE.dN (h : sE st s) (hpc : pcOK st) (d : Int64) : ∀ k, k ≤ 7 → dgN st d k = dmN s d k
  | 0, _ => rfl
  | k + 1, hk => by
    show dgC st k (dgN st d k) = dmC s k (dmN s d k)
    rw [h.dN hpc d k (by omega), h.dC hpc (by omega)]
end
