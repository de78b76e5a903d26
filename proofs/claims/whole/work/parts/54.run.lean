/-! ===== the reference does orders ===== -/
def numN (tx : Nat → Int32) (lw p : Nat) : Nat → Int32
  | 0 => 0
  | k + 1 => 10 * numN tx lw p k + dgF tx lw (p + k)
def ordM (st : Nat → Int32) (ki : Int32) (iz jz : Nat) (num : Int32) : Nat → Int32 := if ki = 62 then addS st iz jz else if ki = 126 then slipS st iz jz else tieS st iz num
def doneI (st : Nat → Int32) (ki : Int32) (iz jz : Nat) (num : Int32) : Int32 := if ki = 62 then (if addR st iz jz = 0 ∨ ¬ addR st iz jz < 10 then 1 else 0) else if ki = 126 then (if slipR st iz jz = -1 then 0 else 1) else (if tieR st iz num < 10 then 0 else 1)
theorem doneI_01 (st : Nat → Int32) (ki : Int32) (iz jz : Nat) (num : Int32) : doneI st ki iz jz num = 1 ∨ doneI st ki iz jz num = 0 := by
  unfold doneI
  split
  · split
    · exact Or.inl rfl
    · exact Or.inr rfl
  · split
    · split
      · exact Or.inr rfl
      · exact Or.inl rfl
    · split
      · exact Or.inr rfl
      · exact Or.inl rfl
theorem pcOK_ordM {st : Nat → Int32} {ki : Int32} {iz jz : Nat} {num : Int32} (h : pcOK st) (hi : iz < 7) (h2 : ki = 62 → jz < 7) (h3 : ki = 126 → jz < 6) : pcOK (ordM st ki iz jz num) := by
  unfold ordM
  split
  · exact pcOK_addS h (h2 ‹_›)
  · split
    · exact pcOK_slipS h (h3 ‹_›)
    · exact pcOK_tieS h hi
theorem boR_ok {tx : Nat → Int32} {lw p b : Nat} (h : boR tx lw p = .inl b) : (0 ≤ dgF tx lw p ∧ dgF tx lw p ≤ 6) ∧ (chF tx lw (p + 1) = 62 → 0 ≤ dgF tx lw (p + 2) ∧ dgF tx lw (p + 2) ≤ 6) ∧ (chF tx lw (p + 1) = 126 → 0 ≤ dgF tx lw (p + 2) ∧ dgF tx lw (p + 2) ≤ 5) := by
  unfold boR at h
  split at h
  · rename_i h0
    refine ⟨h0, fun q => ?_, fun q => ?_⟩
    · rw [if_neg (by rw [q]; decide), if_pos q] at h
      split at h
      · rename_i h1; exact h1.1
      · cases h
    · rw [if_neg (by rw [q]; decide), if_neg (by rw [q]; decide), if_pos q] at h
      split at h
      · rename_i h1; exact h1
      · cases h
  · cases h
theorem dgNat {x : Int32} {b : Nat} (h : 0 ≤ x ∧ x ≤ nI b) (hb : b < 2 ^ 31 - 1) : x = nI x.toNatClampNeg ∧ x.toNatClampNeg < b + 1 := by
  obtain ⟨j, hj, rfl⟩ := nI_of (Int32.not_lt.mpr h.1)
  rw [nI_clamp hj]
  have := (nI_leI hj (by omega)).mp h.2
  exact ⟨rfl, by omega⟩
abbrev oI (tx : Nat → Int32) (lw p : Nat) : Nat := (dgF tx lw p).toNatClampNeg
abbrev oS (tx : Nat → Int32) (lw p b : Nat) (st : Nat → Int32) : Nat → Int32 := ordM st (chF tx lw (p + 1)) (oI tx lw p) (oI tx lw (p + 2)) (numN tx lw (p + 2) (b - (p + 2)))
abbrev oD (tx : Nat → Int32) (lw p b : Nat) (st : Nat → Int32) : Int32 := doneI st (chF tx lw (p + 1)) (oI tx lw p) (oI tx lw (p + 2)) (numN tx lw (p + 2) (b - (p + 2)))
def rnF (tx : Nat → Int32) (lw : Nat) : Nat → Nat → (Nat → Int32) → (Nat → Int32) × Nat
  | 0, _, st => (st, 0)
  | f + 1, p, st => if p < lw then (match boR tx lw p with
      | .inl b => if oD tx lw p b st = 1 then ((rnF tx lw f (b + 1) (oS tx lw p b st)).1, (rnF tx lw f (b + 1) (oS tx lw p b st)).2 + 1) else (oS tx lw p b st, 0)
      | .inr _ => (st, 0)) else (st, 0)
theorem rnF_end {tx : Nat → Int32} {lw p : Nat} {st : Nat → Int32} (h : ¬ p < lw) : ∀ f, rnF tx lw f p st = (st, 0)
  | 0 => rfl
  | f + 1 => if_neg h
theorem rnF_b {tx : Nat → Int32} {lw f p b : Nat} {st : Nat → Int32} (h : p < lw) (hB : boR tx lw p = .inl b) : rnF tx lw (f + 1) p st = if oD tx lw p b st = 1 then ((rnF tx lw f (b + 1) (oS tx lw p b st)).1, (rnF tx lw f (b + 1) (oS tx lw p b st)).2 + 1) else (oS tx lw p b st, 0) := by
  show (if p < lw then _ else _) = _
  rw [if_pos h, hB]
