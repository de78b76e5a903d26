theorem mod_up {m c : Nat} : m % 2 ^ (c + 1) = m % 2 ^ c ∨ m % 2 ^ (c + 1) = m % 2 ^ c + 2 ^ c := by
  have h1 : m % 2 ^ (c + 1) = m % 2 ^ c + 2 ^ c * (m / 2 ^ c % 2) := by rw [Nat.pow_succ]; exact Nat.mod_mul
  rcases Nat.mod_two_eq_zero_or_one (m / 2 ^ c) with h | h
  · rw [h1, h]; exact Or.inl (by omega)
  · rw [h1, h]; exact Or.inr (by omega)
theorem mod_dn {m c k : Nat} (hk : k < 2 ^ c) (h : m % 2 ^ (c + 1) = k ∨ m % 2 ^ (c + 1) = k + 2 ^ c) : m % 2 ^ c = k := by
  have h1 : m % 2 ^ (c + 1) % 2 ^ c = m % 2 ^ c := Nat.mod_mod_of_dvd m ⟨2, Nat.pow_succ ..⟩
  rcases h with h | h
  · rw [h, Nat.mod_eq_of_lt hk] at h1; exact h1.symm
  · rw [h, Nat.add_mod_right, Nat.mod_eq_of_lt hk] at h1; exact h1.symm
theorem tI_ext (tl : Nat → Int32) {k c : Nat} (hk : k < 2 ^ c) : tI tl (k + 2 ^ c) (c + 1) = tI tl k c + (tl c).toInt := by
  show tI tl (k + 2 ^ c) c + (if (k + 2 ^ c).testBit c then (tl c).toInt else 0) = _
  have e1 : (k + 2 ^ c) % 2 ^ c = k := by rw [Nat.add_mod_right, Nat.mod_eq_of_lt hk]
  have e2 : tI tl (k + 2 ^ c) c = tI tl k c := by rw [← tI_mod tl (k + 2 ^ c) c c (Nat.le_refl _), e1]
  have e3 : (k + 2 ^ c).testBit c = true := by
    rw [Nat.testBit, Nat.shiftRight_eq_div_pow, Nat.add_div_right k (Nat.two_pow_pos c), Nat.div_eq_of_lt hk]
    rfl
  rw [e2, e3]; rfl
theorem le_ext {m c : Nat} (hm : m < 128) (hc : c < 8) : leM (m % 2 ^ c) m := by
  have h1 := mn_mod m hm c hc
  by_cases e : mnF (nI (m % 2 ^ c)) = mnF (nI m)
  · exact Or.inr ⟨e, Nat.mod_le _ _⟩
  · exact Or.inl (Int32.lt_of_le_of_ne h1 e)
theorem isB.more {Q Q' : Nat → Prop} {R : Int32} (h : isB Q R) (h1 : ∀ m, Q m → Q' m) (h2 : ∀ m', Q' m' → ∃ m, Q m ∧ leM m m') : isB Q' R := by
  rcases h with ⟨e, hn⟩ | ⟨m, g1, g2, g3, g4, g5⟩
  · exact Or.inl ⟨e, fun m q => by obtain ⟨m2, q2, -⟩ := h2 m q; exact hn m2 q2⟩
  · refine Or.inr ⟨m, h1 m g1, g2, g3, g4, fun m' q => ?_⟩
    obtain ⟨m2, q2, q3⟩ := h2 m' q
    exact (g5 m2 q2).tr q3
theorem btF_best {tl : Nat → Int32} (h : tlOK tl) {S : Int} (hS : 0 < S) (hS2 : S ≤ 9999999) : ∀ (d : Nat), d ≤ 7 → ∀ (k : Nat) (left be : Int32) (Q : Nat → Prop), k < 2 ^ (7 - d) → left.toInt = S - tI tl k 7 → isB Q be → isB (fun m => Q m ∨ (m < 128 ∧ m % 2 ^ (7 - d) = k ∧ tI tl m 7 = S)) (btF tl d left (nI k) be)
  | 0, _, k, left, be, Q, hk, hl, hB => by
    show isB _ (if left = 0 then betF (nI k) be else be)
    have hk' : k < 128 := hk
    by_cases e : left = 0
    · rw [if_pos e]
      rw [e] at hl
      have hl : (0 : Int) = S - tI tl k 7 := hl
      have k1 : 1 ≤ k := by
        rcases Nat.eq_zero_or_pos k with q | q
        · subst q
          have : tI tl 0 7 = 0 := by simp [tI]
          omega
        · exact q
      refine (hB.bet k1 hk').iff (fun m => ⟨fun q => q.imp id (fun q => ?_), fun q => q.imp id (fun q => ?_)⟩)
      · subst q; exact ⟨hk', Nat.mod_eq_of_lt hk', by omega⟩
      · have := q.2.1; rw [Nat.mod_eq_of_lt q.1] at this; exact this
    · rw [if_neg e]
      refine hB.iff (fun m => ⟨Or.inl, fun q => q.elim id (fun q => ?_)⟩)
      exfalso
      have h1 := q.2.1
      rw [Nat.mod_eq_of_lt q.1] at h1
      subst h1
      apply e
      apply Int32.toInt.inj
      rw [hl, q.2.2]
      show S - S = 0
      omega
  | d + 1, hd, k, left, be, Q, hk, hl, hB => by
    obtain ⟨c, hc⟩ : ∃ c, 7 - (d + 1) = c := ⟨_, rfl⟩
    have hc6 : 6 - d = c := by omega
    have hc7 : 7 - d = c + 1 := by omega
    rw [hc] at hk ⊢
    have hc' : c < 7 := by omega
    have hpow : 2 ^ c ≤ 2 ^ 6 := Nat.pow_le_pow_right (by decide) (by omega)
    have hk' : k < 128 := by omega
    have hlow : tI tl k 7 = tI tl k c := by have := tI_low tl hk (7 - c); rwa [Nat.add_sub_cancel' (by omega)] at this
    have hrk := tI_rng h k 7 (Nat.le_refl _)
    show isB _ (if left = 0 then betF (nI k) be else if left < 0 then be else btF tl d left (nI k) (btF tl d (left - tl (6 - d)) (nI k ||| 1 <<< (nI (6 - d) &&& 31)) be))
    by_cases e : left = 0
    · rw [if_pos e]
      rw [e] at hl
      have hl : (0 : Int) = S - tI tl k 7 := hl
      have k1 : 1 ≤ k := by
        rcases Nat.eq_zero_or_pos k with q | q
        · subst q
          have : tI tl 0 7 = 0 := by simp [tI]
          omega
        · exact q
      refine (hB.bet k1 hk').more (fun m q => q.imp id (fun q => ?_)) (fun m' q => ?_)
      · subst q; exact ⟨hk', Nat.mod_eq_of_lt hk, by omega⟩
      · rcases q with q | q
        · exact ⟨m', Or.inl q, leM.rf _⟩
        · exact ⟨k, Or.inr rfl, by rw [← q.2.1]; exact le_ext q.1 (by omega)⟩
    · rw [if_neg e]
      by_cases e2 : left < 0
      · rw [if_pos e2]
        refine hB.iff (fun m => ⟨Or.inl, fun q => q.elim id (fun q => ?_)⟩)
        exfalso
        rw [Int32.lt_iff_toInt_lt, hl] at e2
        have e2 : S - tI tl k 7 < 0 := e2
        have h1 : tI tl m c ≤ tI tl m 7 := by have := tI_mono h m (c := c) (7 - c) (by omega); rwa [Nat.add_sub_cancel' (by omega)] at this
        have h2 : tI tl m c = tI tl k c := by rw [← tI_mod tl m c c (Nat.le_refl _), q.2.1]
        have := q.2.2
        omega
      · rw [if_neg e2, hc6, or_bit c hc' k hk]
        have hb := h c hc'
        have hk2 : k + 2 ^ c < 2 ^ (c + 1) := by rw [Nat.pow_succ]; omega
        have hext : tI tl (k + 2 ^ c) 7 = tI tl k c + (tl c).toInt := by
          have := tI_low tl hk2 (7 - (c + 1))
          rw [Nat.add_sub_cancel' (by omega)] at this
          rw [this, tI_ext tl hk]
        have hl2 : (left - tl c).toInt = S - tI tl (k + 2 ^ c) 7 := by
          rw [Int32.toInt_sub, hl, hext, hlow, Int.bmod_eq_of_le (by omega) (by omega)]
          omega
        have i1 := btF_best h hS hS2 d (by omega) (k + 2 ^ c) (left - tl c) be Q (by rw [hc7]; exact hk2) hl2 hB
        rw [hc7] at i1
        have i2 := btF_best h hS hS2 d (by omega) k left _ _ (by rw [hc7]; exact Nat.lt_of_lt_of_le hk (Nat.pow_le_pow_right (by decide) (by omega))) hl i1
        rw [hc7] at i2
        refine i2.iff (fun m => ⟨fun q => ?_, fun q => ?_⟩)
        · rcases q with (q | q) | q
          · exact Or.inl q
          · exact Or.inr ⟨q.1, mod_dn hk (Or.inr q.2.1), q.2.2⟩
          · exact Or.inr ⟨q.1, mod_dn hk (Or.inl q.2.1), q.2.2⟩
        · rcases q with q | q
          · exact Or.inl (Or.inl q)
          · rcases mod_up (m := m) (c := c) with u | u
            · exact Or.inr ⟨q.1, by rw [u]; exact q.2.1, q.2.2⟩
            · exact Or.inl (Or.inr ⟨q.1, by rw [u, q.2.1], q.2.2⟩)
theorem boA_best {tl : Nat → Int32} (h : tlOK tl) {sum : Int32} : ∀ k, k ≤ 127 → isB (fun m => 1 ≤ m ∧ m ≤ k ∧ tI tl m 7 = sum.toInt) (boA tl sum k)
  | 0, _ => Or.inl ⟨rfl, fun m q => by omega⟩
  | k + 1, hk => by
    have ih := boA_best h (sum := sum) k (by omega)
    have hs := setT_int h (m := k + 1) (by omega) 7 (Nat.le_refl _)
    show isB _ (if setT tl (nI (k + 1)) 7 = sum then betF (nI (k + 1)) (boA tl sum k) else boA tl sum k)
    by_cases c : setT tl (nI (k + 1)) 7 = sum
    · rw [if_pos c]
      rw [c] at hs
      refine (ih.bet (a := k + 1) (by omega) (by omega)).iff (fun m => ⟨fun q => ?_, fun q => ?_⟩)
      · rcases q with q | q
        · exact ⟨q.1, by omega, q.2.2⟩
        · subst q; exact ⟨by omega, Nat.le_refl _, hs.symm⟩
      · by_cases e : m = k + 1
        · exact Or.inr e
        · exact Or.inl ⟨q.1, by omega, q.2.2⟩
    · rw [if_neg c]
      refine ih.iff (fun m => ⟨fun q => ⟨q.1, by omega, q.2.2⟩, fun q => ⟨q.1, ?_, q.2.2⟩⟩)
      rcases Nat.lt_or_ge k m with u | u
      · exfalso
        have : m = k + 1 := by omega
        subst this
        exact c (Int32.toInt.inj (hs.trans q.2.2))
      · exact u
theorem for_eq {tl : Nat → Int32} (h : tlOK tl) {sum : Int32} (h1 : ¬ sum < 1) (h2 : sum ≤ 9999999) : btF tl 7 sum 0 (-1) = boA tl sum 127 := by
  have hS : 0 < sum.toInt := by
    have := Int32.not_lt.mp h1
    rw [Int32.le_iff_toInt_le] at this
    have e : (1 : Int32).toInt = 1 := rfl
    omega
  have hS2 : sum.toInt ≤ 9999999 := by
    rw [Int32.le_iff_toInt_le] at h2
    exact h2
  have z : tI tl 0 7 = 0 := by simp [tI]
  have b1 := btF_best h hS hS2 7 (Nat.le_refl _) 0 sum (-1) (fun _ => False) (by decide) (by rw [z]; omega) (Or.inl ⟨rfl, fun _ q => q⟩)
  have b2 := boA_best h (sum := sum) 127 (Nat.le_refl _)
  refine isB.uniq (b1.iff (fun m => ⟨fun q => ?_, fun q => ?_⟩)) b2
  · rcases q with q | q
    · exact q.elim
    · refine ⟨?_, by omega, q.2.2⟩
      rcases Nat.eq_zero_or_pos m with u | u
      · subst u; have := q.2.2; omega
      · exact u
  · exact Or.inr ⟨by omega, Nat.mod_one m, q.2.2⟩
theorem for_sf {st : Nat → Int32} (h : tlOK (cTold st)) {sum : Int32} (h1 : ¬ sum < 1) (h2 : sum ≤ 9999999) (w : Nat) : forF (cTold st) sum w = sfF st sum 127 := by
  unfold forF
  split
  · exact bo_sf st sum 127 (Nat.le_refl _)
  · rw [for_eq h h1 h2]; exact bo_sf st sum 127 (Nat.le_refl _)
