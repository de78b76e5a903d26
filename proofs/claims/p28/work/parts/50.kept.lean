/-! ===== rows of whole that serve here ===== -/
theorem upd_at (f : Nat → Int32) (j : Nat) (v : Int32) : upd f j v j = v := if_pos rfl
def mnF (zm : Int32) : Int32 := sumN (fun c => bitI zm (nI c)) 7
def tbF (st : Nat → Int32) (zm : Int32) : Int32 := sumN (fun c => bitI zm (nI c) * cTold st c) 7
def sfF (st : Nat → Int32) (sum : Int32) : Nat → Int32
  | 0 => -1
  | k + 1 => if tbF st (nI (k + 1)) = sum ∧ (sfF st sum k = -1 ∨ mnF (nI (k + 1)) < mnF (sfF st sum k)) then nI (k + 1) else sfF st sum k
theorem pcOK_eq {st st2 : Nat → Int32} (h : pcOK st) (e : ∀ i, i < 7 → st2 (6 + 31 * i + 1) = st (6 + 31 * i + 1)) : pcOK st2 := by
  intro i hi
  unfold cm
  rw [e i hi]
  exact h i hi
theorem knitF_lo {st : Nat → Int32} {i : Nat} {num : Int32} {i2 j : Nat} (hj : j < 19) : knitF st i num (6 + 31 * i2 + j) = st (6 + 31 * i2 + j) := by
  unfold knitF
  rw [if_neg (by omega), if_neg (by omega), if_neg (by omega), if_neg (by omega)]
theorem pcOK_up {st : Nat → Int32} (h : pcOK st) (v : Int32) {x : Nat} (hx : x < 6) : pcOK (upd st x v) := pcOK_eq h (fun i hi => by unfold upd; rw [if_neg (by omega)])
theorem pcOK_tieF {st : Nat → Int32} {i : Nat} {num : Int32} (h : pcOK st) (hm : cm st i < 16) (hi : i < 7) : pcOK (tieF st i num) := by
  intro i2 h2
  by_cases e : i2 = i
  · subst e
    have e1 : tieF st i2 num (6 + 31 * i2 + 1) = nI (cm st i2 + 1) := if_pos rfl
    unfold cm
    rw [e1, nI_clamp (by omega)]
    exact ⟨rfl, by show cm st i2 + 1 ≤ 16; omega⟩
  · have e1 : tieF st i num (6 + 31 * i2 + 1) = st (6 + 31 * i2 + 1) := by
      unfold tieF
      rw [if_neg (by omega), if_neg (by omega)]
      exact knitF_lo (by decide)
    unfold cm
    rw [e1]
    exact h i2 h2
theorem pcOK_renF {st : Nat → Int32} {i : Nat} (h : pcOK st) : pcOK (renF st i) := by
  intro i2 h2
  by_cases e : i2 = i
  · subst e
    have e1 : renF st i2 (6 + 31 * i2 + 1) = 0 := by unfold renF; rw [if_neg (by omega), if_pos (Or.inl rfl)]
    unfold cm
    rw [e1]
    exact ⟨rfl, by decide⟩
  · have e1 : renF st i (6 + 31 * i2 + 1) = st (6 + 31 * i2 + 1) := by unfold renF; rw [if_neg (by omega), if_neg (by omega), if_neg (by omega)]
    unfold cm
    rw [e1]
    exact h i2 h2
theorem knitF_at (st : Nat → Int32) (i : Nat) (num : Int32) (x : Nat) : knitF st i num x = if x = 0 then st 0 + sumN (mK (fK st i) (fL st i) num) 6 else if x = 1 then st 1 + sumN (mL (fK st i) (fL st i) num) 6 else if 6 + 31 * i + 19 ≤ x ∧ x < 6 + 31 * i + 25 then st x + mK (fK st i) (fL st i) num (x - (6 + 31 * i + 19)) else if 6 + 31 * i + 25 ≤ x ∧ x < 6 + 31 * i + 31 then st x + mL (fK st i) (fL st i) num (x - (6 + 31 * i + 25)) else st x := rfl
theorem tieF_at (st : Nat → Int32) (i : Nat) (num : Int32) (x : Nat) : tieF st i num x = if x = 6 + 31 * i + 1 then nI (cm st i + 1) else if x = 6 + 31 * i + (3 + cm st i) then num else knitF st i num x := rfl
theorem tieF_cm {st : Nat → Int32} {i : Nat} {num : Int32} (hm : cm st i < 16) : cm (tieF st i num) i = cm st i + 1 := by
  show (tieF st i num (6 + 31 * i + 1)).toNatClampNeg = _
  rw [tieF_at, if_pos rfl, nI_clamp (by omega)]
theorem tieF_K {st : Nat → Int32} {i : Nat} {num : Int32} (hm : cm st i < 16) {p : Nat} (hp : p < 6) : fK (tieF st i num) i p = tK (fK st i) (fL st i) num 6 p := by
  show tieF st i num (6 + 31 * i + (19 + p)) = if p < 6 then _ else _
  rw [tieF_at, if_neg (by omega), if_neg (by omega), knitF_at, if_neg (by omega), if_neg (by omega), if_pos (by omega), if_pos hp, show 6 + 31 * i + (19 + p) - (6 + 31 * i + 19) = p by omega]
  rfl
theorem tieF_L {st : Nat → Int32} {i : Nat} {num : Int32} (hm : cm st i < 16) {p : Nat} (hp : p < 6) : fL (tieF st i num) i p = tL (fK st i) (fL st i) num 6 p := by
  show tieF st i num (6 + 31 * i + (25 + p)) = if p < 6 then _ else _
  rw [tieF_at, if_neg (by omega), if_neg (by omega), knitF_at, if_neg (by omega), if_neg (by omega), if_neg (by omega), if_pos (by omega), if_pos hp, show 6 + 31 * i + (25 + p) - (6 + 31 * i + 25) = p by omega]
  rfl
theorem tieF_5 {st : Nat → Int32} {i : Nat} {num : Int32} : tieF st i num 5 = st 5 := by
  rw [tieF_at, if_neg (by omega), if_neg (by omega), knitF_at, if_neg (by omega), if_neg (by omega), if_neg (by omega), if_neg (by omega)]
theorem rsn_02 (kn lo : Nat → Int32) (num room : Int32) : ∀ p, rsn kn lo num room p = 0 ∨ rsn kn lo num room p = 2
  | 0 => Or.inl rfl
  | p + 1 => by
    show (if _ then _ else _) = _ ∨ (if _ then _ else _) = _
    split
    · exact Or.inr rfl
    · exact rsn_02 kn lo num room p
theorem cmOf {st st2 : Nat → Int32} {i : Nat} (e : st2 (6 + 31 * i + 1) = st (6 + 31 * i + 1)) : cm st2 i = cm st i := congrArg Int32.toNatClampNeg e
