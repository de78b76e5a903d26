theorem zTab {x : Int32} {b : Int32} {n : Int} (h : x < 0 ∨ b ≤ x) (hb : b.toInt = n + 1) : x.toInt < 0 ∨ n < x.toInt := by
  rcases h with h | h
  · rw [Int32.lt_iff_toInt_lt] at h; exact Or.inl h
  · rw [Int32.le_iff_toInt_le] at h; exact Or.inr (by omega)
theorem zbad1 {x b : Int32} (h : x < 0 ∨ b ≤ x) (c : ¬ x < 0) (c2 : x < b) : False := h.elim c (fun q => absurd c2 (Int32.not_lt.mpr q))
theorem zbad2 {x a b : Int32} (h : x < a ∨ b < x) (c : ¬ x < a) (c2 : x ≤ b) : False := h.elim c (fun q => absurd c2 (Int32.not_le.mpr q))
