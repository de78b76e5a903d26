section
variable {st s : Nat → Int32}
theorem sE.kn (h : sE st s) {i : Nat} (hi : i < 7) (num : Int32) {y : Nat} (e : st y = s y) : knitF st i num y = knitF s i num y := by
  rw [knitF_at, knitF_at, h.sK hi, h.sL hi, h.c (x := 0) (by decide), h.c (x := 1) (by decide), e]
  by_cases h2 : 6 + 31 * i + 19 ≤ y ∧ y < 6 + 31 * i + 25
  · rw [if_pos h2, if_pos h2, mK_congr (h.K hi) (h.L hi) (show y - (6 + 31 * i + 19) < 6 by omega)]
  · rw [if_neg h2, if_neg h2]
    by_cases h3 : 6 + 31 * i + 25 ≤ y ∧ y < 6 + 31 * i + 31
    · rw [if_pos h3, if_pos h3, mL_congr (h.K hi) (h.L hi) (show y - (6 + 31 * i + 25) < 6 by omega)]
    · rw [if_neg h3, if_neg h3]
theorem cm_ne {st : Nat → Int32} {i i2 : Nat} {num : Int32} (hm : cm st i ≤ 16) (hne : i2 ≠ i) : cm (tieF st i num) i2 = cm st i2 := congrArg Int32.toNatClampNeg (by
  rw [tieF_at, if_neg (by omega), if_neg (by omega), knitF_at, if_neg (by omega), if_neg (by omega), if_neg (by omega), if_neg (by omega)])
theorem sE.tf (h : sE st s) {i : Nat} (hi : i < 7) (num : Int32) (hm : cm st i < 16) : sE (tieF st i num) (tieF s i num) := by
  intro y hy hn
  rw [tieF_at, tieF_at, ← h.m hi]
  by_cases h1 : y = 6 + 31 * i + 1
  · rw [if_pos h1, if_pos h1]
  · rw [if_neg h1, if_neg h1]
    by_cases h2 : y = 6 + 31 * i + (3 + cm st i)
    · rw [if_pos h2, if_pos h2]
    · rw [if_neg h2, if_neg h2]
      refine h.kn hi num (h y hy (fun i2 k g1 g2 g3 => ?_))
      by_cases e : i2 = i
      · subst e
        by_cases e2 : k = cm st i2
        · rw [e2]; exact h2
        · exact hn i2 k g1 (by rw [tieF_cm hm]; omega) g3
      · exact hn i2 k g1 (by rw [cm_ne (by omega) e]; exact g2) g3
theorem sE.ts (h : sE st s) {i : Nat} (hi : i < 7) (num : Int32) : sE (tieS st i num) (tieS s i num) := by
  unfold tieS
  rw [← h.ro hi]
  by_cases c : cRop st i num = 0
  · rw [if_pos c, if_pos c]; exact h.tf hi num (rop_lt c)
  · rw [if_neg c, if_neg c, h.c (x := 4) (by decide)]; exact h.up (Or.inl (by decide)) _
theorem sE.as (h : sE st s) {i j : Nat} (hi : i < 7) (hj : j < 7) : sE (addS st i j) (addS s i j) := by
  unfold addS
  rw [← h.to hi]
  by_cases c : cTold st i = 0
  · rw [if_pos c, if_pos c]; exact h
  · rw [if_neg c, if_neg c]; exact h.ts hj _
theorem cmOf {st st2 : Nat → Int32} {i : Nat} (e : st2 (6 + 31 * i + 1) = st (6 + 31 * i + 1)) : cm st2 i = cm st i := congrArg Int32.toNatClampNeg e
theorem sE.kf (h : sE st s) {i : Nat} (hi : i < 7) (num : Int32) : sE (knitF st i num) (knitF s i num) := by
  intro y hy hn
  refine h.kn hi num (h y hy (fun i2 k g1 g2 g3 => hn i2 k g1 ?_ g3))
  rw [cmOf (st := st) (knitF_lo (by decide))]
  exact g2
theorem sE.ms (h : sE st s) (hpc : pcOK st) {i : Nat} (hi : i < 7) : sE (mendS st i) (mendS s i) := by
  unfold mendS
  rw [← h.la hpc hi, ← h.re hi]
  by_cases c : cLack st i = 0
  · rw [if_pos c, if_pos c]; exact h
  · rw [if_neg c, if_neg c]
    by_cases c2 : cRef st i (cLack st i) = 0
    · rw [if_pos c2, if_pos c2]; exact h.kf hi _
    · rw [if_neg c2, if_neg c2, h.c (x := 4) (by decide)]; exact h.up (Or.inl (by decide)) _
theorem sE.sf (h : sE st s) {i j : Nat} (hi : i < 7) (hj : j < 6) : sE (slipF st i j) (slipF s i j) := by
  intro y hy hn
  have e : st y = s y := h y hy (fun i2 k g1 g2 g3 => hn i2 k g1 (by
    rw [cmOf (st := st) (by unfold slipF; rw [if_neg (by omega), if_neg (by omega), if_neg (by omega)])]
    exact g2) g3)
  show (if y = 6 + 31 * i + (19 + j) then st y - 1 else if y = 6 + 31 * i + 2 then st y + 1 else if y = 2 then st 2 + 1 else st y) = if y = 6 + 31 * i + (19 + j) then s y - 1 else if y = 6 + 31 * i + 2 then s y + 1 else if y = 2 then s 2 + 1 else s y
  rw [e, h.c (x := 2) (by decide)]
theorem sE.ss (h : sE st s) {i j : Nat} (hi : i < 7) (hj : j < 6) : sE (slipS st i j) (slipS s i j) := by
  unfold slipS
  rw [← opn_congr (h.K hi) (h.L hi) hj]
  by_cases c : opn (fK st i) (fL st i) j = 0
  · rw [if_pos c, if_pos c, h.c (x := 4) (by decide)]; exact h.up (Or.inl (by decide)) _
  · rw [if_neg c, if_neg c]; exact h.sf hi hj
/-- the class's new cord, and the reference's: it clears the parts too -/
theorem sE.rn (h : sE st s) {i : Nat} (hi : i < 7) : sE (renF st i) (renM s i) := by
  intro y hy hn
  show (if y = 3 then st 3 + cTies st i else if y = 6 + 31 * i + 1 ∨ y = 6 + 31 * i + 2 then 0 else if 6 + 31 * i + 19 ≤ y ∧ y < 6 + 31 * i + 31 then 0 else st y) = if 6 + 31 * i + 1 ≤ y ∧ y < 6 + 31 * i + 1 + 30 then 0 else (if y = 3 then s 3 + cTies s i else s y)
  have cmi : cm (renF st i) i = 0 := congrArg Int32.toNatClampNeg (show (renF st i (6 + 31 * i + 1)) = 0 by unfold renF; rw [if_neg (by omega), if_pos (Or.inl rfl)])
  by_cases h3 : y = 3
  · rw [if_pos h3, if_neg (by omega), if_pos h3, h.c (x := 3) (by decide), h.ti hi]
  · rw [if_neg h3, if_neg h3]
    by_cases h1 : y = 6 + 31 * i + 1 ∨ y = 6 + 31 * i + 2
    · rw [if_pos h1, if_pos (by omega)]
    · rw [if_neg h1]
      by_cases h2 : 6 + 31 * i + 19 ≤ y ∧ y < 6 + 31 * i + 31
      · rw [if_pos h2, if_pos (by omega)]
      · rw [if_neg h2]
        by_cases h4 : 6 + 31 * i + 1 ≤ y ∧ y < 6 + 31 * i + 1 + 30
        · exact absurd (show y = 6 + 31 * i + (3 + (y - (6 + 31 * i + 3))) by omega) (hn i (y - (6 + 31 * i + 3)) hi (by rw [cmi]; omega) (by omega))
        · rw [if_neg h4]
          refine h y hy (fun i2 k g1 g2 g3 => ?_)
          by_cases e : i2 = i
          · subst e; omega
          · refine hn i2 k g1 ?_ g3
            rw [cmOf (st := st) (by unfold renF; rw [if_neg (by omega), if_neg (by omega), if_neg (by omega)])]
            exact g2
end
