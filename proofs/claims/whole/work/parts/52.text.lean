/-! ===== the reference over a text ===== -/
section
variable (tx : Nat → Int32) (lw p : Nat)
abbrev dgF (tx : Nat → Int32) (lw p : Nat) : Int32 := chF tx lw p - 48
abbrev isDg (tx : Nat → Int32) (lw p k : Nat) : Prop := (if k = 0 then (1 : Int32) else 0) ≤ dgF tx lw (p + k) ∧ dgF tx lw (p + k) ≤ 9
def bnC (tx : Nat → Int32) (lw p : Nat) : Nat → Nat
  | 0 => 0
  | k + 1 => if bnC tx lw p k = k ∧ isDg tx lw p k then k + 1 else bnC tx lw p k
theorem bnC_le : ∀ k, bnC tx lw p k ≤ k
  | 0 => Nat.le_refl _
  | k + 1 => by
    have := bnC_le k
    show (if _ then _ else _) ≤ _
    split
    · exact Nat.le_refl _
    · exact Nat.le_succ_of_le this
variable {tx lw p}
theorem bnC_up {k : Nat} (h : bnC tx lw p k = k) (c : isDg tx lw p k) : bnC tx lw p (k + 1) = k + 1 := if_pos ⟨h, c⟩
theorem bnC_stop {k : Nat} (h : bnC tx lw p k = k) (c : ¬ isDg tx lw p k) : ∀ f, bnC tx lw p (k + f) = k
  | 0 => h
  | f + 1 => by
    have ih := bnC_stop h c f
    show (if bnC tx lw p (k + f) = k + f ∧ isDg tx lw p (k + f) then _ else bnC tx lw p (k + f)) = k
    by_cases e : f = 0
    · subst e; exact (if_neg (fun q => c q.2)).trans ih
    · exact (if_neg (fun q => by have := q.1; rw [ih] at this; omega)).trans ih
theorem bnC_at {k n : Nat} (h : bnC tx lw p k = k) (c : ¬ isDg tx lw p k) (hk : k ≤ n) : bnC tx lw p n = k := by
  have := bnC_stop h c (n - k)
  rwa [Nat.add_sub_cancel' hk] at this
end
/-- behind an order, or where it is wrong -/
def boR (tx : Nat → Int32) (lw p : Nat) : Nat ⊕ Nat :=
  if 0 ≤ dgF tx lw p ∧ dgF tx lw p ≤ 6 then
    (if chF tx lw (p + 1) = 43 then (if bnC tx lw (p + 2) 6 = 0 then .inr (p + 2) else .inl (p + 2 + bnC tx lw (p + 2) 6))
    else if chF tx lw (p + 1) = 62 then (if (0 ≤ dgF tx lw (p + 2) ∧ dgF tx lw (p + 2) ≤ 6) ∧ dgF tx lw (p + 2) ≠ dgF tx lw p then .inl (p + 3) else .inr (p + 2))
    else if chF tx lw (p + 1) = 126 then (if 0 ≤ dgF tx lw (p + 2) ∧ dgF tx lw (p + 2) ≤ 5 then .inl (p + 3) else .inr (p + 2))
    else .inr (p + 1))
  else .inr p
def boV : Nat ⊕ Nat → Int32
  | .inl b => nI b
  | .inr e => -1 - nI e
theorem zm2 (p : Nat) : -2 - nI p = -1 - nI (p + 1) := by rw [← nI_1]; grind
theorem zm3 (p : Nat) : -3 - nI p = -1 - nI (p + 2) := by
  have : nI (p + 2) = nI p + 2 := (nI_add p 2).symm
  rw [this]; grind
theorem lkO {x : Int32} (h1 : ¬ x = 43) (h2 : ¬ x = 62) (h3 : ¬ x = 126) : Op.lookupswitch.offset [(43, 36), (62, 60), (126, 95)] 121 x.toInt = 121 := by
  have e1 : x.toInt ≠ 43 := fun q => h1 (Int32.toInt.inj (by rw [q]; rfl))
  have e2 : x.toInt ≠ 62 := fun q => h2 (Int32.toInt.inj (by rw [q]; rfl))
  have e3 : x.toInt ≠ 126 := fun q => h3 (Int32.toInt.inj (by rw [q]; rfl))
  simp [Op.lookupswitch.offset, e1.symm, e2.symm, e3.symm, e1, e2, e3]
theorem boR_le {tx : Nat → Int32} {lw p b : Nat} (h : boR tx lw p = .inl b) : p + 3 ≤ b ∧ b ≤ p + 8 := by
  unfold boR at h
  have h6 := bnC_le tx lw (p + 2) 6
  split at h
  · split at h
    · split at h
      · cases h
      · cases h; constructor <;> omega
    · split at h
      · split at h
        · cases h; constructor <;> omega
        · cases h
      · split at h
        · split at h
          · cases h; constructor <;> omega
          · cases h
        · cases h
  · cases h
theorem boR_er {tx : Nat → Int32} {lw p e : Nat} (h : boR tx lw p = .inr e) : e ≤ p + 2 := by
  unfold boR at h
  split at h
  · split at h
    · split at h
      · cases h; omega
      · cases h
    · split at h
      · split at h
        · cases h
        · cases h; omega
      · split at h
        · split at h
          · cases h
          · cases h; omega
        · cases h; omega
  · cases h; omega
/-- where the text is wrong -/
def wrR (tx : Nat → Int32) (lw : Nat) : Nat → Nat → Option Nat
  | 0, _ => none
  | f + 1, p => match boR tx lw p with
    | .inr e => some e
    | .inl b => if b < lw then (if tx b = 59 then wrR tx lw f (b + 1) else some b) else none
def wrV : Option Nat → Int32
  | none => -1
  | some e => nI e
theorem wrR_e {tx : Nat → Int32} {lw f p e : Nat} (h : boR tx lw p = .inr e) : wrR tx lw (f + 1) p = some e := by show (match boR tx lw p with | .inr e => some e | .inl b => _) = _; rw [h]
theorem wrR_b {tx : Nat → Int32} {lw f p b : Nat} (h : boR tx lw p = .inl b) : wrR tx lw (f + 1) p = if b < lw then (if tx b = 59 then wrR tx lw f (b + 1) else some b) else none := by show (match boR tx lw p with | .inr e => some e | .inl b => _) = _; rw [h]
theorem neg1_lt (e : Nat) (h : e < 2 ^ 30) : ¬ 0 ≤ -1 - nI e := by
  intro q
  have h1 : -1 - nI e = -(nI (e + 1)) := by rw [← nI_1]; grind
  rw [h1] at q
  have h2 : (-(nI (e + 1))).toInt = -((e : Int) + 1) := by
    rw [Int32.toInt_neg, nI_toInt (by omega)]
    rw [Int.bmod_eq_of_le (by omega) (by omega)]
    omega
  rw [Int32.le_iff_toInt_le, h2] at q
  have : (0 : Int32).toInt = 0 := rfl
  omega
theorem neg1_neg (e : Nat) : -1 - (-1 - nI e) = wrV (some e) := by show _ = nI e; grind
theorem wrV_m1 {o : Option Nat} (h : wrV o = -1) (hb : ∀ e, o = some e → e < 2 ^ 30) : o = none := by
  cases o with
  | none => rfl
  | some e =>
    have h2 : e < 2 ^ 30 := hb e rfl
    have h3 : nI e = -1 := h
    have h4 := nI_pos (n := e) (by omega)
    rw [h3] at h4
    exact absurd (by decide) h4
theorem wrR_lt {tx : Nat → Int32} {lw : Nat} : ∀ {f p e : Nat}, p ≤ lw → wrR tx lw f p = some e → e ≤ lw + 2
  | 0, p, e, _, h => by cases h
  | f + 1, p, e, hp, h => by
    cases hB : boR tx lw p with
    | inr e9 =>
      rw [wrR_e hB] at h
      cases h
      have := boR_er hB
      omega
    | inl b =>
      rw [wrR_b hB] at h
      by_cases c : b < lw
      · rw [if_pos c] at h
        by_cases c2 : tx b = 59
        · rw [if_pos c2] at h; exact wrR_lt (by omega) h
        · rw [if_neg c2] at h; cases h; omega
      · rw [if_neg c] at h; cases h
