/-! ===== class and reference agree: what is counted, sets of cords ===== -/
theorem ties_all (st : Nat → Int32) : sumN (allK st) 7 + sumN (allL st) 7 = sumN (cTies st) 7 := (sumN_add (allK st) (allL st) 7).symm
theorem sumN_mul (c : Int32) (f : Nat → Int32) : ∀ m, sumN (fun k => c * f k) m = c * sumN f m
  | 0 => by show (0 : Int32) = c * 0; exact (Int32.mul_zero).symm
  | m + 1 => by
    show sumN (fun k => c * f k) m + c * f m = c * (sumN f m + f m)
    rw [sumN_mul c f m, Int32.mul_add]
theorem addsub (a b : Int32) : a + b - b = a := by grind
theorem bit_01 : ∀ m, m < 128 → ∀ k, k < 7 → bitI (nI m) (nI k) = 0 ∨ bitI (nI m) (nI k) = 1 := by decide +kernel
theorem bc_mn : ∀ m, m < 128 → bcI (nI m) = mnF (nI m) := by decide +kernel
theorem tb_eq (st : Nat → Int32) {m : Nat} (hm : m < 128) : ∀ k, k ≤ 7 → setT (cTold st) (nI m) k = sumN (fun c => bitI (nI m) (nI c) * cTold st c) k
  | 0, _ => rfl
  | k + 1, hk => by
    show (if bitI (nI m) (nI k) = 1 then setT (cTold st) (nI m) k + cTold st k else setT (cTold st) (nI m) k) = sumN (fun c => bitI (nI m) (nI c) * cTold st c) k + bitI (nI m) (nI k) * cTold st k
    rw [tb_eq st hm k (by omega)]
    rcases bit_01 m hm k (by omega) with h | h
    · rw [h, if_neg (by decide), Int32.zero_mul, Int32.add_zero]
    · rw [h, if_pos rfl, Int32.one_mul]
theorem boA_is (tl : Nat → Int32) (sum : Int32) : ∀ k, boA tl sum k = -1 ∨ ∃ j, 1 ≤ j ∧ j ≤ k ∧ boA tl sum k = nI j
  | 0 => Or.inl rfl
  | k + 1 => by
    have ih := boA_is tl sum k
    have ih2 : boA tl sum k = -1 ∨ ∃ j, 1 ≤ j ∧ j ≤ k + 1 ∧ boA tl sum k = nI j := ih.elim Or.inl (fun ⟨j, h1, h2, h3⟩ => Or.inr ⟨j, h1, by omega, h3⟩)
    have e9 : boA tl sum (k + 1) = if setT tl (nI (k + 1)) 7 = sum then betF (nI (k + 1)) (boA tl sum k) else boA tl sum k := rfl
    rw [e9]
    split
    · have hb : betF (nI (k + 1)) (boA tl sum k) = nI (k + 1) ∨ betF (nI (k + 1)) (boA tl sum k) = boA tl sum k := by
        unfold betF
        split
        · exact Or.inl rfl
        · split
          · exact Or.inl rfl
          · split
            · split
              · exact Or.inr rfl
              · exact Or.inl rfl
            · exact Or.inr rfl
      rcases hb with hb | hb
      · rw [hb]; exact Or.inr ⟨k + 1, by omega, Nat.le_refl _, rfl⟩
      · rw [hb]; exact ih2
    · exact ih2
theorem cmp_lt {a b : Int32} : cmpI a b < 0 ↔ a < b := by
  unfold cmpI
  by_cases h : b ≤ a
  · rw [if_pos h]
    constructor
    · intro q
      split at q <;> exact absurd q (by decide)
    · intro q; exact absurd q (Int32.not_lt.mpr h)
  · rw [if_neg h]
    exact ⟨fun _ => Int32.not_le.mp h, fun _ => by decide⟩
theorem bet_eq {m j : Nat} (hm : m < 128) (hj : 1 ≤ j) (hjm : j < m) : betF (nI m) (nI j) = if mnF (nI m) < mnF (nI j) then nI m else nI j := by
  have hne : ¬ nI j = -1 := fun q => by
    have := nI_pos (n := j) (by omega)
    rw [q] at this
    exact this (by decide)
  unfold betF
  rw [if_neg hne, bc_mn m hm, bc_mn j (by omega)]
  by_cases h : mnF (nI m) < mnF (nI j)
  · rw [if_pos (cmp_lt.mpr h), if_pos h]
  · rw [if_neg (fun q => h (cmp_lt.mp q)), if_neg h]
    have hle : nI j ≤ nI m := (nI_leI (by omega) (by omega)).mpr (by omega)
    split <;> first | rfl | rw [if_pos hle]
theorem bo_sf (st : Nat → Int32) (sum : Int32) : ∀ k, k ≤ 127 → boA (cTold st) sum k = sfF st sum k
  | 0, _ => rfl
  | k + 1, hk => by
    have ih := bo_sf st sum k (by omega)
    have ht : setT (cTold st) (nI (k + 1)) 7 = tbF st (nI (k + 1)) := tb_eq st (by omega) 7 (Nat.le_refl _)
    show (if setT (cTold st) (nI (k + 1)) 7 = sum then betF (nI (k + 1)) (boA (cTold st) sum k) else boA (cTold st) sum k) = if tbF st (nI (k + 1)) = sum ∧ (sfF st sum k = -1 ∨ mnF (nI (k + 1)) < mnF (sfF st sum k)) then nI (k + 1) else sfF st sum k
    rw [ht, ← ih]
    by_cases c : tbF st (nI (k + 1)) = sum
    · rw [if_pos c]
      rcases boA_is (cTold st) sum k with h | ⟨j, h1, h2, h3⟩
      · rw [h, if_pos ⟨c, Or.inl rfl⟩]
        exact if_pos rfl
      · rw [h3, bet_eq (by omega) h1 (by omega)]
        have hne : ¬ nI j = -1 := fun q => by
          have := nI_pos (n := j) (by omega)
          rw [q] at this
          exact this (by decide)
        by_cases c2 : mnF (nI (k + 1)) < mnF (nI j)
        · rw [if_pos c2, if_pos ⟨c, Or.inr c2⟩]
        · rw [if_neg c2, if_neg (fun q => q.2.elim hne c2)]
    · rw [if_neg c, if_neg (fun q => c q.1)]
