/-! ===== the class's search by trying finds the same set ===== -/
def tI (tl : Nat → Int32) (m : Nat) : Nat → Int
  | 0 => 0
  | k + 1 => tI tl m k + (if m.testBit k then (tl k).toInt else 0)
theorem bit_tb : ∀ m, m < 128 → ∀ k, k < 7 → (bitI (nI m) (nI k) = 1 ↔ m.testBit k = true) := by decide +kernel
theorem or_bit : ∀ c, c < 7 → ∀ m, m < 2 ^ c → nI m ||| (1 <<< (nI c &&& 31)) = nI (m + 2 ^ c) := by decide +kernel
theorem mn_mod : ∀ m, m < 128 → ∀ c, c < 8 → mnF (nI (m % 2 ^ c)) ≤ mnF (nI m) := by decide +kernel
def tlOK (tl : Nat → Int32) : Prop := ∀ i, i < 7 → 0 ≤ (tl i).toInt ∧ (tl i).toInt ≤ 999999
section
variable {tl : Nat → Int32}
theorem tI_rng (h : tlOK tl) (m : Nat) : ∀ k, k ≤ 7 → 0 ≤ tI tl m k ∧ tI tl m k ≤ 999999 * (k : Int)
  | 0, _ => ⟨Int.le_refl _, Int.le_refl _⟩
  | k + 1, hk => by
    have ih := tI_rng h m k (by omega)
    have hb := h k (by omega)
    show 0 ≤ tI tl m k + (if m.testBit k then (tl k).toInt else 0) ∧ tI tl m k + (if m.testBit k then (tl k).toInt else 0) ≤ 999999 * ((k + 1 : Nat) : Int)
    split <;> constructor <;> omega
theorem tI_mono (h : tlOK tl) (m : Nat) {c : Nat} : ∀ d, c + d ≤ 7 → tI tl m c ≤ tI tl m (c + d)
  | 0, _ => Int.le_refl _
  | d + 1, hd => by
    have ih := tI_mono h m (c := c) d (by omega)
    have hb := h (c + d) (by omega)
    show tI tl m c ≤ tI tl m (c + d) + (if m.testBit (c + d) then (tl (c + d)).toInt else 0)
    split <;> omega
theorem setT_int (h : tlOK tl) {m : Nat} (hm : m < 128) : ∀ k, k ≤ 7 → (setT tl (nI m) k).toInt = tI tl m k
  | 0, _ => rfl
  | k + 1, hk => by
    have ih := setT_int h hm k (by omega)
    have hb := h k (by omega)
    have hr := tI_rng h m k (by omega)
    have hbt := bit_tb m hm k (by omega)
    show (if bitI (nI m) (nI k) = 1 then setT tl (nI m) k + tl k else setT tl (nI m) k).toInt = tI tl m k + (if m.testBit k then (tl k).toInt else 0)
    by_cases c : bitI (nI m) (nI k) = 1
    · rw [if_pos c, if_pos (hbt.mp c), Int32.toInt_add, ih, Int.bmod_eq_of_le (by omega) (by omega)]
    · rw [if_neg c, if_neg (fun q => c (hbt.mpr q)), ih, Int.add_zero]
end
theorem tI_mod (tl : Nat → Int32) (m c : Nat) : ∀ k, k ≤ c → tI tl (m % 2 ^ c) k = tI tl m k
  | 0, _ => rfl
  | k + 1, hk => by
    show tI tl (m % 2 ^ c) k + (if (m % 2 ^ c).testBit k then _ else _) = tI tl m k + (if m.testBit k then _ else _)
    rw [tI_mod tl m c k (by omega), Nat.testBit_mod_two_pow]
    have : decide (k < c) = true := decide_eq_true (by omega)
    rw [this, Bool.true_and]
theorem tI_low (tl : Nat → Int32) {m c : Nat} (hm : m < 2 ^ c) : ∀ d, tI tl m (c + d) = tI tl m c
  | 0 => rfl
  | d + 1 => by
    show tI tl m (c + d) + (if m.testBit (c + d) then _ else 0) = _
    have : m.testBit (c + d) = false := Nat.testBit_lt_two_pow (Nat.lt_of_lt_of_le hm (Nat.pow_le_pow_right (by decide) (by omega)))
    rw [tI_low tl hm d, this]
    simp
def leM (a b : Nat) : Prop := mnF (nI a) < mnF (nI b) ∨ (mnF (nI a) = mnF (nI b) ∧ a ≤ b)
theorem leM.rf (a : Nat) : leM a a := Or.inr ⟨rfl, Nat.le_refl _⟩
theorem leM.tr {a b c : Nat} (h1 : leM a b) (h2 : leM b c) : leM a c := by
  rcases h1 with h1 | ⟨h1, h1'⟩
  · rcases h2 with h2 | ⟨h2, -⟩
    · exact Or.inl (Int32.lt_trans h1 h2)
    · exact Or.inl (by rw [← h2]; exact h1)
  · rcases h2 with h2 | ⟨h2, h2'⟩
    · exact Or.inl (by rw [h1]; exact h2)
    · exact Or.inr ⟨h1.trans h2, by omega⟩
theorem leM.as {a b : Nat} (h1 : leM a b) (h2 : leM b a) : a = b := by
  rcases h1 with h1 | ⟨h1, h1'⟩
  · rcases h2 with h2 | ⟨h2, -⟩
    · exact (Int32.lt_irrefl (Int32.lt_trans h1 h2)).elim
    · rw [h2] at h1; exact (Int32.lt_irrefl h1).elim
  · rcases h2 with h2 | ⟨h2, h2'⟩
    · rw [h1] at h2; exact (Int32.lt_irrefl h2).elim
    · omega
/-- the best of a set of masks -/
def isB (Q : Nat → Prop) (R : Int32) : Prop := (R = -1 ∧ ∀ m, ¬ Q m) ∨ ∃ m, Q m ∧ 1 ≤ m ∧ m < 128 ∧ R = nI m ∧ ∀ m', Q m' → leM m m'
theorem isB.iff {Q Q' : Nat → Prop} {R : Int32} (h : isB Q R) (e : ∀ m, Q m ↔ Q' m) : isB Q' R := by
  rcases h with ⟨h1, h2⟩ | ⟨m, h1, h2, h3, h4, h5⟩
  · exact Or.inl ⟨h1, fun m q => h2 m ((e m).mpr q)⟩
  · exact Or.inr ⟨m, (e m).mp h1, h2, h3, h4, fun m' q => h5 m' ((e m').mpr q)⟩
theorem isB.uniq {Q : Nat → Prop} {R R' : Int32} (h : isB Q R) (h' : isB Q R') : R = R' := by
  rcases h with ⟨h1, h2⟩ | ⟨m, h1, h2, h3, h4, h5⟩
  · rcases h' with ⟨g1, g2⟩ | ⟨m', g1, g2, g3, g4, g5⟩
    · rw [h1, g1]
    · exact absurd g1 (h2 m')
  · rcases h' with ⟨g1, g2⟩ | ⟨m', g1, g2, g3, g4, g5⟩
    · exact absurd h1 (g2 m)
    · rw [h4, g4, (h5 m' g1).as (g5 m h1)]
theorem nI_ne1 {j : Nat} (hj : j < 128) : ¬ nI j = -1 := fun q => by
  have := nI_pos (n := j) (by omega)
  rw [q] at this
  exact this (by decide)
theorem cmp_0 {a b : Int32} : cmpI a b = 0 ↔ a = b := by
  unfold cmpI
  by_cases h : b ≤ a
  · rw [if_pos h]
    by_cases e : a = b
    · rw [if_pos e]; exact ⟨fun _ => e, fun _ => rfl⟩
    · rw [if_neg e]; exact ⟨fun q => absurd q (by decide), fun q => absurd q e⟩
  · rw [if_neg h]
    exact ⟨fun q => absurd q (by decide), fun q => absurd (by rw [q]; exact Int32.le_refl _) h⟩
/-- what better chooses -/
theorem bet_or {a b : Nat} (ha : a < 128) (hb : b < 128) : (betF (nI a) (nI b) = nI a ∧ leM a b) ∨ (betF (nI a) (nI b) = nI b ∧ leM b a) := by
  unfold betF
  rw [if_neg (nI_ne1 hb), bc_mn a ha, bc_mn b hb]
  by_cases h : mnF (nI a) < mnF (nI b)
  · rw [if_pos (cmp_lt.mpr h)]; exact Or.inl ⟨rfl, Or.inl h⟩
  · rw [if_neg (fun q => h (cmp_lt.mp q))]
    by_cases e : mnF (nI a) = mnF (nI b)
    · rw [if_pos (cmp_0.mpr e)]
      by_cases c : nI b ≤ nI a
      · rw [if_pos c]; exact Or.inr ⟨rfl, Or.inr ⟨e.symm, (nI_leI (by omega) (by omega)).mp c⟩⟩
      · rw [if_neg c]; exact Or.inl ⟨rfl, Or.inr ⟨e, by have h7 : ¬ b ≤ a := fun q => c ((nI_leI (a := b) (b := a) (by omega) (by omega)).mpr q); omega⟩⟩
    · rw [if_neg (fun q => e (cmp_0.mp q))]
      refine Or.inr ⟨rfl, Or.inl ?_⟩
      exact Int32.lt_of_le_of_ne (Int32.not_lt.mp h) (fun q => e q.symm)
theorem isB.bet {Q : Nat → Prop} {R : Int32} (h : isB Q R) {a : Nat} (h1 : 1 ≤ a) (h2 : a < 128) : isB (fun m => Q m ∨ m = a) (betF (nI a) R) := by
  rcases h with ⟨e, hn⟩ | ⟨m, g1, g2, g3, g4, g5⟩
  · refine Or.inr ⟨a, Or.inr rfl, h1, h2, by rw [e]; exact if_pos rfl, fun m' q => ?_⟩
    rcases q with q | q
    · exact absurd q (hn m')
    · rw [q]; exact leM.rf a
  · rw [g4]
    rcases bet_or h2 g3 with ⟨b1, b2⟩ | ⟨b1, b2⟩
    · refine Or.inr ⟨a, Or.inr rfl, h1, h2, b1, fun m' q => ?_⟩
      rcases q with q | q
      · exact b2.tr (g5 m' q)
      · rw [q]; exact leM.rf a
    · refine Or.inr ⟨m, Or.inl g1, g2, g3, b1, fun m' q => ?_⟩
      rcases q with q | q
      · exact g5 m' q
      · rw [q]; exact b2
