/-! ===== the herd's methods that change one cord, said of the one row of numbers ===== -/
section ZF
variable {st : Nat → Int32} {i : Nat} {num : Int32}
theorem knitF_c {x : Nat} (h : x < 6) (h0 : x ≠ 0) (h1 : x ≠ 1) : knitF st i num x = st x := by
  unfold knitF
  rw [if_neg h0, if_neg h1, if_neg (by omega), if_neg (by omega)]
theorem knitF_h {j : Nat} (h : j < 19) : knitF st i num (6 + 31 * i + j) = st (6 + 31 * i + j) := by
  unfold knitF
  rw [if_neg (by omega), if_neg (by omega), if_neg (by omega), if_neg (by omega)]
theorem knitF_K {p : Nat} (h : p < 6) : knitF st i num (6 + 31 * i + (19 + p)) = tK (fK st i) (fL st i) num 6 p := by
  unfold knitF tK fK
  rw [if_neg (by omega), if_neg (by omega), if_pos (by omega), if_pos h, show 6 + 31 * i + (19 + p) - (6 + 31 * i + 19) = p by omega]
theorem knitF_L {p : Nat} (h : p < 6) : knitF st i num (6 + 31 * i + (25 + p)) = tL (fK st i) (fL st i) num 6 p := by
  unfold knitF tL fL
  rw [if_neg (by omega), if_neg (by omega), if_neg (by omega), if_pos (by omega), if_pos h, show 6 + 31 * i + (25 + p) - (6 + 31 * i + 25) = p by omega]
theorem knitF_o {k j : Nat} (hk : k ≠ i) (hj : j < 31) : knitF st i num (6 + 31 * k + j) = st (6 + 31 * k + j) := by
  unfold knitF
  rw [if_neg (by omega), if_neg (by omega), if_neg (by omega), if_neg (by omega)]
theorem knitF_0 : knitF st i num 0 = st 0 + sumN (mK (fK st i) (fL st i) num) 6 := rfl
theorem knitF_1 : knitF st i num 1 = st 1 + sumN (mL (fK st i) (fL st i) num) 6 := rfl
theorem tieF_c {x : Nat} (h : x < 6) : tieF st i num x = knitF st i num x := by
  unfold tieF
  rw [if_neg (by omega), if_neg (by omega)]
theorem tieF_n : tieF st i num (6 + 31 * i + 1) = nI (cm st i + 1) := by
  unfold tieF
  rw [if_pos rfl]
theorem tieF_p {k : Nat} (h : k < 16) (hm : cm st i < 16) : tieF st i num (6 + 31 * i + (3 + k)) = upd (fP st i) (cm st i) num k := by
  unfold tieF upd
  rw [if_neg (by omega)]
  by_cases hk : k = cm st i
  · subst hk
    rw [if_pos rfl, if_pos rfl]
  · rw [if_neg (by omega), if_neg hk, knitF_h (by omega)]
    rfl
theorem tieF_h {j : Nat} (h1 : j ≠ 1) (h : j < 3 ∨ 19 ≤ j) (hm : cm st i < 16) : tieF st i num (6 + 31 * i + j) = knitF st i num (6 + 31 * i + j) := by
  unfold tieF
  rw [if_neg (by omega), if_neg (by omega)]
theorem tieF_o {k j : Nat} (hk : k ≠ i) (hj : j < 31) (hm : cm st i < 16) : tieF st i num (6 + 31 * k + j) = st (6 + 31 * k + j) := by
  unfold tieF
  rw [if_neg (by omega), if_neg (by omega), knitF_o hk hj]
theorem upd4_c {x : Nat} {v : Int32} (h : x ≠ 4) : upd st 4 v x = st x := by simp [upd, h]
theorem upd4_4 {v : Int32} : upd st 4 v 4 = v := by simp [upd]
end ZF
section ZF2
variable {l : Launch} {D : va_G} {cy : Nat → ClassId} {K : Nat} {ad : Nat → Nat} {g : Nat → va_E} {n i : Nat} {st : Nat → Int32} {num : Int32}
theorem i32_addsub (b c : Int32) : b + c - b = c := by grind
theorem zFr_herd {g1 : Nat → va_E} (hi : i < 7) (h : zFr (fun z9 => z9 = n ∨ (n + 2 + 4 * i ≤ z9 ∧ z9 < n + 2 + 4 * i + 4)) g g1) : zFr (zRg n (n + 30)) g g1 := h.mono (fun x hx => by dsimp only [zRg] at hx ⊢; omega)
/-- refused: only the count of what was refused grows -/
theorem isH_ref (hH : isH cy K ad g n st) {g1 : Nat → va_E} {rw : Nat → Option Nat} {kn lo pa : Nat → Int32} (hi : i < 7) (hrw : ∀ i, i < 7 → rw i = some (ad (n + 2 + 4 * i))) (hf : zFr (fun z9 => z9 = n ∨ (n + 2 + 4 * i ≤ z9 ∧ z9 < n + 2 + 4 * i + 4)) g g1)
    (hG : isG cy K ad g1 n rw (st 5) (st 0) (st 1) (st 2) (st 3) (st 4 + 1)) (hC : isC cy K ad g1 (n + 2 + 4 * i) kn lo pa (st (6 + 31 * i + 1)) (st (6 + 31 * i + 0)) (st (6 + 31 * i + 2))) (h1 : ∀ p, p < 6 → kn p = fK st i p) (h2 : ∀ p, p < 6 → lo p = fL st i p) (h3 : ∀ p, p < 16 → pa p = fP st i p) : isH cy K ad g1 n (upd st 4 (st 4 + 1)) :=
  hH.put hi (x := fun j => st (6 + 31 * i + j)) hrw hf hG ⟨kn, lo, pa, hC, h1, h2, h3⟩ (upd4_c (by decide)).symm (upd4_c (by decide)).symm (upd4_c (by decide)).symm (upd4_c (by decide)).symm (upd4_c (by decide)).symm upd4_4.symm (fun j hj => (upd4_c (by omega)).symm) (fun k hk hki j hj => upd4_c (by omega))
/-- knitted: knots and loops grow on one cord -/
theorem isH_knit (hH : isH cy K ad g n st) {g1 : Nat → va_E} {rw : Nat → Option Nat} {kn lo pa : Nat → Int32} {kt lt : Int32} (hi : i < 7) (hrw : ∀ i, i < 7 → rw i = some (ad (n + 2 + 4 * i))) (hf : zFr (fun z9 => z9 = n ∨ (n + 2 + 4 * i ≤ z9 ∧ z9 < n + 2 + 4 * i + 4)) g g1)
    (hG : isG cy K ad g1 n rw (st 5) kt lt (st 2) (st 3) (st 4)) (ek : kt = st 0 + sumN (mK (fK st i) (fL st i) num) 6) (el : lt = st 1 + sumN (mL (fK st i) (fL st i) num) 6) (hC : isC cy K ad g1 (n + 2 + 4 * i) kn lo pa (st (6 + 31 * i + 1)) (st (6 + 31 * i + 0)) (st (6 + 31 * i + 2))) (h1 : ∀ p, p < 6 → kn p = tK (fK st i) (fL st i) num 6 p) (h2 : ∀ p, p < 6 → lo p = tL (fK st i) (fL st i) num 6 p) (h3 : ∀ p, p < 16 → pa p = fP st i p) : isH cy K ad g1 n (knitF st i num) := by
  refine hH.put hi (x := fun j => knitF st i num (6 + 31 * i + j)) hrw hf hG ⟨kn, lo, pa, ?_, fun p hp => (h1 p hp).trans (knitF_K hp).symm, fun p hp => (h2 p hp).trans (knitF_L hp).symm, fun p hp => (h3 p hp).trans (knitF_h (by omega)).symm⟩ (knitF_c (by decide) (by decide) (by decide)).symm ek el (knitF_c (by decide) (by decide) (by decide)).symm (knitF_c (by decide) (by decide) (by decide)).symm (knitF_c (by decide) (by decide) (by decide)).symm (fun j hj => rfl) (fun k hk hki j hj => knitF_o hki hj)
  show isC cy K ad g1 _ kn lo pa (knitF st i num (6 + 31 * i + 1)) (knitF st i num (6 + 31 * i + 0)) (knitF st i num (6 + 31 * i + 2))
  rw [knitF_h (by decide), knitF_h (by decide), knitF_h (by decide)]
  exact hC
theorem isH_tie (hH : isH cy K ad g n st) {g1 : Nat → va_E} {rw : Nat → Option Nat} {kn lo pa : Nat → Int32} {kt lt : Int32} (hi : i < 7) (hm : cm st i < 16) (hrw : ∀ i, i < 7 → rw i = some (ad (n + 2 + 4 * i))) (hf : zFr (fun z9 => z9 = n ∨ (n + 2 + 4 * i ≤ z9 ∧ z9 < n + 2 + 4 * i + 4)) g g1)
    (hG : isG cy K ad g1 n rw (st 5) kt lt (st 2) (st 3) (st 4)) (ek : kt = st 0 + sumN (mK (fK st i) (fL st i) num) 6) (el : lt = st 1 + sumN (mL (fK st i) (fL st i) num) 6) (hC : isC cy K ad g1 (n + 2 + 4 * i) kn lo pa (nI (cm st i + 1)) (st (6 + 31 * i + 0)) (st (6 + 31 * i + 2))) (h1 : ∀ p, p < 6 → kn p = tK (fK st i) (fL st i) num 6 p) (h2 : ∀ p, p < 6 → lo p = tL (fK st i) (fL st i) num 6 p) (h3 : ∀ p, p < 16 → pa p = upd (fP st i) (cm st i) num p) : isH cy K ad g1 n (tieF st i num) := by
  refine hH.put hi (x := fun j => tieF st i num (6 + 31 * i + j)) hrw hf hG ⟨kn, lo, pa, ?_, fun p hp => (h1 p hp).trans ((tieF_h (by omega) (by omega) hm).trans (knitF_K hp)).symm, fun p hp => (h2 p hp).trans ((tieF_h (by omega) (by omega) hm).trans (knitF_L hp)).symm, fun p hp => (h3 p hp).trans (tieF_p hp hm).symm⟩ ((tieF_c (by decide)).trans (knitF_c (by decide) (by decide) (by decide))).symm ((ek.trans knitF_0.symm).trans (tieF_c (x := 0) (by decide)).symm) ((el.trans knitF_1.symm).trans (tieF_c (x := 1) (by decide)).symm) ((tieF_c (by decide)).trans (knitF_c (by decide) (by decide) (by decide))).symm ((tieF_c (by decide)).trans (knitF_c (by decide) (by decide) (by decide))).symm ((tieF_c (by decide)).trans (knitF_c (by decide) (by decide) (by decide))).symm (fun j hj => rfl) (fun k hk hki j hj => tieF_o hki hj hm)
  show isC cy K ad g1 _ kn lo pa (tieF st i num (6 + 31 * i + 1)) (tieF st i num (6 + 31 * i + 0)) (tieF st i num (6 + 31 * i + 2))
  rw [tieF_n, tieF_h (by decide) (by decide) hm, tieF_h (by decide) (by decide) hm, knitF_h (by decide), knitF_h (by decide)]
  exact hC
theorem mf_tiePart (l : Launch) {D : va_G} (sz : Nat) (hH : isH cy K ad g n st) (hi : i < 7) (hpc : pcOK st) : Met l yX1_tiePart (zs yX1_tiePart cX1_tiePart 6 (some .int)) ({ frames := 4, cells := 0, slots := 0, locals := 93 } : Room) (va_Pc [.ref (ad n), .ref (ad (n + 2 + 4 * i)), .int num] (zIn D cy K ad g sz)) (va_Qi (fun r g1 => r = tieR st i num ∧ isH cy K ad g1 n (tieS st i num) ∧ zFr (zRg n (n + 30)) g g1) (zOut D cy K ad sz) (zA K ad sz)) 0 0 (zA K ad sz) := by
  obtain ⟨rw, hG, hrw, hCs⟩ := id hH
  obtain ⟨kn, lo, pa, hC, h1, h2, h3⟩ := hCs i hi
  have e1 : (fun j => st (6 + 31 * i + j)) 1 = nI (cm st i) := (hpc i hi).1
  have hC0 := hC
  rw [e1] at hC
  refine z_postI (m_X1_tiePart l sz hG hC (by omega) (hpc i hi).2) (fun r g1 h => ?_)
  have ec : rop kn lo (cm st i) num (st 5) = cRop st i num := rop_congr h1 h2
  rw [ec] at h
  unfold tieR tieS
  rcases h with ⟨c1, h4, h5, h6, h7⟩ | ⟨c1, h4, h5, h6, h7⟩
  · rw [if_neg c1, if_neg c1]
    refine ⟨h4, isH_ref hH hi hrw h7 h5 ?_ h1 h2 h3, zFr_herd hi h7⟩
    rw [← e1] at h6
    exact h6
  · rw [if_pos c1, if_pos c1]
    have eL : sumN (tL kn lo num 6) 6 - sumN lo 6 = sumN (mL (fK st i) (fL st i) num) 6 := by
      rw [sumN_tL, sumN_congr (m := 6) (fun k hk => mL_congr h1 h2 hk)]; exact i32_addsub _ _
    have eK : sumN (tK kn lo num 6) 6 - sumN kn 6 = sumN (mK (fK st i) (fL st i) num) 6 := by
      rw [sumN_tK, sumN_congr (m := 6) (fun k hk => mK_congr h1 h2 hk)]; exact i32_addsub _ _
    rw [eL] at h4
    refine ⟨h4, isH_tie hH hi (rop_lt c1) hrw h7 h5 (by rw [eK]) (by rw [eL]) h6 (fun p hp => tK_congr h1 h2 hp) (fun p hp => tL_congr h1 h2 hp) (fun p hp => ?_), zFr_herd hi h7⟩
    simp only [upd]
    split
    · rfl
    · exact h3 p hp
theorem mf_tieLack (l : Launch) {D : va_G} (sz : Nat) (hH : isH cy K ad g n st) (hi : i < 7) (hpc : pcOK st) : Met l yX1_tieLack (zs yX1_tieLack cX1_tieLack 6 (some .int)) ({ frames := 3, cells := 0, slots := 0, locals := 71 } : Room) (va_Pc [.ref (ad n), .ref (ad (n + 2 + 4 * i))] (zIn D cy K ad g sz)) (va_Qi (fun r g1 => r = mendR st i ∧ isH cy K ad g1 n (mendS st i) ∧ zFr (zRg n (n + 30)) g g1) (zOut D cy K ad sz) (zA K ad sz)) 0 0 (zA K ad sz) := by
  obtain ⟨rw, hG, hrw, hCs⟩ := id hH
  obtain ⟨kn, lo, pa, hC, h1, h2, h3⟩ := hCs i hi
  have e1 : (fun j => st (6 + 31 * i + j)) 1 = nI (cm st i) := (hpc i hi).1
  rw [e1] at hC
  refine z_postI (m_X1_tieLack l sz hG hC (by omega) (hpc i hi).2) (fun r g1 h => ?_)
  have el : sumN pa (cm st i) - tld kn lo 6 = cLack st i := by
    unfold cLack cParts cTold
    rw [sumN_congr (m := cm st i) (fun k hk => h3 k (Nat.lt_of_lt_of_le hk (hpc i hi).2)), tld_congr h1 h2 6]
    rfl
  rw [el] at h
  have ec : refuse kn lo (cLack st i) (st 5) = cRef st i (cLack st i) := refuse_congr h1 h2
  rw [ec] at h
  unfold mendR mendS
  rcases h with ⟨c0, h4, rfl⟩ | ⟨c0, c1, h4, h5, h6, h7⟩ | ⟨c0, c1, h4, h5, h6, h7⟩
  · rw [if_pos c0, if_pos c0]
    exact ⟨h4, hH, zFr.rf⟩
  · rw [if_neg c0, if_neg c0, if_neg c1, if_neg c1]
    refine ⟨h4, isH_ref hH hi hrw h7 h5 ?_ h1 h2 h3, zFr_herd hi h7⟩
    rw [← e1] at h6
    exact h6
  · rw [if_neg c0, if_neg c0, if_pos c1, if_pos c1]
    have eL : sumN (tL kn lo (cLack st i) 6) 6 - sumN lo 6 = sumN (mL (fK st i) (fL st i) (cLack st i)) 6 := by
      rw [sumN_tL, sumN_congr (m := 6) (fun k hk => mL_congr h1 h2 hk)]; exact i32_addsub _ _
    have eK : sumN (tK kn lo (cLack st i) 6) 6 - sumN kn 6 = sumN (mK (fK st i) (fL st i) (cLack st i)) 6 := by
      rw [sumN_tK, sumN_congr (m := 6) (fun k hk => mK_congr h1 h2 hk)]; exact i32_addsub _ _
    rw [← e1] at h6
    exact ⟨h4, isH_knit hH hi hrw h7 h5 (by rw [eK]) (by rw [eL]) h6 (fun p hp => tK_congr h1 h2 hp) (fun p hp => tL_congr h1 h2 hp) h3, zFr_herd hi h7⟩
theorem mf_loosen (l : Launch) {D : va_G} (sz : Nat) {jz : Nat} (hH : isH cy K ad g n st) (hi : i < 7) (hj : jz < 6) : Met l yX1_loosen (zs yX1_loosen cX1_loosen 3 (some .int)) ({ frames := 1, cells := 0, slots := 0, locals := 21 } : Room) (va_Pc [.ref (ad n), .ref (ad (n + 2 + 4 * i)), .int (nI jz)] (zIn D cy K ad g sz)) (va_Qi (fun r g1 => r = slipR st i jz ∧ isH cy K ad g1 n (slipS st i jz) ∧ zFr (zRg n (n + 30)) g g1) (zOut D cy K ad sz) (zA K ad sz)) 0 0 (zA K ad sz) := by
  obtain ⟨rw, hG, hrw, hCs⟩ := id hH
  obtain ⟨kn, lo, pa, hC, h1, h2, h3⟩ := hCs i hi
  refine z_postI (m_X1_loosen l sz hG hC (by omega) hj) (fun r g1 h => ?_)
  have eo : opn kn lo jz = opn (fK st i) (fL st i) jz := opn_congr h1 h2 hj
  rw [eo] at h
  unfold slipR slipS
  rcases h with ⟨c0, h4, h5, h6, h7⟩ | ⟨c0, h4, h5, h6, h7⟩
  · rw [if_pos c0, if_pos c0]
    exact ⟨h4, isH_ref hH hi hrw h7 h5 h6 h1 h2 h3, zFr_herd hi h7⟩
  · rw [if_neg c0, if_neg c0]
    refine ⟨?_, hH.put hi (x := fun j => slipF st i jz (6 + 31 * i + j)) hrw h7 h5 ⟨upd kn jz (kn jz - 1), lo, pa, ?_, fun p hp => ?_, fun p hp => ?_, fun p hp => ?_⟩ ?_ ?_ ?_ ?_ ?_ ?_ (fun j hj => rfl) (fun k hk hki j hj2 => ?_), zFr_herd hi h7⟩
    · rw [h4]
      simp only [opn, upd, if_true]
      rw [h1 jz hj, h2 jz hj]
      rfl
    · show isC cy K ad g1 _ _ lo pa (slipF st i jz (6 + 31 * i + 1)) (slipF st i jz (6 + 31 * i + 0)) (slipF st i jz (6 + 31 * i + 2))
      have a1 : slipF st i jz (6 + 31 * i + 1) = st (6 + 31 * i + 1) := by unfold slipF; rw [if_neg (by omega), if_neg (by omega), if_neg (by omega)]
      have a0 : slipF st i jz (6 + 31 * i + 0) = st (6 + 31 * i + 0) := by unfold slipF; rw [if_neg (by omega), if_neg (by omega), if_neg (by omega)]
      have a2 : slipF st i jz (6 + 31 * i + 2) = st (6 + 31 * i + 2) + 1 := by unfold slipF; rw [if_neg (by omega), if_pos rfl]
      rw [a1, a0, a2]
      exact h6
    · show upd kn jz (kn jz - 1) p = slipF st i jz (6 + 31 * i + (19 + p))
      unfold upd slipF
      by_cases hp2 : p = jz
      · subst hp2
        rw [if_pos rfl, if_pos rfl, h1 p hj]
      · rw [if_neg hp2, if_neg (by omega), if_neg (by omega), if_neg (by omega), h1 p hp]
    · show lo p = slipF st i jz (6 + 31 * i + (25 + p))
      unfold slipF
      rw [if_neg (by omega), if_neg (by omega), if_neg (by omega), h2 p hp]
    · show pa p = slipF st i jz (6 + 31 * i + (3 + p))
      unfold slipF
      rw [if_neg (by omega), if_neg (by omega), if_neg (by omega), h3 p hp]
    · unfold slipF; rw [if_neg (by omega), if_neg (by omega), if_neg (by omega)]
    · unfold slipF; rw [if_neg (by omega), if_neg (by omega), if_neg (by omega)]
    · unfold slipF; rw [if_neg (by omega), if_neg (by omega), if_neg (by omega)]
    · unfold slipF; rw [if_neg (by omega), if_neg (by omega), if_pos rfl]
    · unfold slipF; rw [if_neg (by omega), if_neg (by omega), if_neg (by omega)]
    · unfold slipF; rw [if_neg (by omega), if_neg (by omega), if_neg (by omega)]
    · unfold slipF; rw [if_neg (by omega), if_neg (by omega), if_neg (by omega)]
theorem mf_replace (l : Launch) {D : va_G} (sz : Nat) (hH : isH cy K ad g n st) (hi : i < 7) : Met l yX1_replace (zs yX1_replace cX1_replace 3 (some .int)) ({ frames := 3, cells := 0, slots := 0, locals := 63 } : Room) (va_Pc [.ref (ad n), .ref (ad (n + 2 + 4 * i))] (zIn D cy K ad g sz)) (va_Qi (fun r g1 => r = cTold st i ∧ isH cy K ad g1 n (renF st i) ∧ zFr (zRg n (n + 30)) g g1) (zOut D cy K ad sz) (zA K ad sz)) 0 0 (zA K ad sz) := by
  obtain ⟨rw, hG, hrw, hCs⟩ := id hH
  obtain ⟨kn, lo, pa, hC, h1, h2, h3⟩ := hCs i hi
  refine z_postI (m_X1_replace l sz hG hC (by omega)) (fun r g1 h => ?_)
  obtain ⟨h4, h5, h6, h7⟩ := h
  have eT : sumN kn 6 + sumN lo 6 = cTies st i := by
    unfold cTies
    rw [sumN_congr (m := 6) h1, sumN_congr (m := 6) h2]
    rfl
  rw [eT] at h5
  refine ⟨h4.trans (tld_congr h1 h2 6), hH.put hi (x := fun j => renF st i (6 + 31 * i + j)) hrw h7 h5 ⟨zK kn 6, zK lo 6, pa, ?_, fun p hp => ?_, fun p hp => ?_, fun p hp => ?_⟩ ?_ ?_ ?_ ?_ ?_ ?_ (fun j hj => rfl) (fun k hk hki j hj2 => ?_), zFr_herd hi h7⟩
  · show isC cy K ad g1 _ _ _ pa (renF st i (6 + 31 * i + 1)) (renF st i (6 + 31 * i + 0)) (renF st i (6 + 31 * i + 2))
    have a1 : renF st i (6 + 31 * i + 1) = 0 := by unfold renF; rw [if_neg (by omega), if_pos (by omega)]
    have a0 : renF st i (6 + 31 * i + 0) = st (6 + 31 * i + 0) := by unfold renF; rw [if_neg (by omega), if_neg (by omega), if_neg (by omega)]
    have a2 : renF st i (6 + 31 * i + 2) = 0 := by unfold renF; rw [if_neg (by omega), if_pos (by omega)]
    rw [a1, a0, a2]
    exact h6
  · show zK kn 6 p = renF st i (6 + 31 * i + (19 + p))
    unfold zK renF
    rw [if_pos hp, if_neg (by omega), if_neg (by omega), if_pos (by omega)]
  · show zK lo 6 p = renF st i (6 + 31 * i + (25 + p))
    unfold zK renF
    rw [if_pos hp, if_neg (by omega), if_neg (by omega), if_pos (by omega)]
  · show pa p = renF st i (6 + 31 * i + (3 + p))
    unfold renF
    rw [if_neg (by omega), if_neg (by omega), if_neg (by omega), h3 p hp]
  · unfold renF; rw [if_neg (by omega), if_neg (by omega), if_neg (by omega)]
  · unfold renF; rw [if_neg (by omega), if_neg (by omega), if_neg (by omega)]
  · unfold renF; rw [if_neg (by omega), if_neg (by omega), if_neg (by omega)]
  · unfold renF; rw [if_neg (by omega), if_neg (by omega), if_neg (by omega)]
  · unfold renF; rw [if_pos rfl]
  · unfold renF; rw [if_neg (by omega), if_neg (by omega), if_neg (by omega)]
  · unfold renF; rw [if_neg (by omega), if_neg (by omega), if_neg (by omega)]
end ZF2
