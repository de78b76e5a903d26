/-! ===== class and reference read the same text ===== -/
theorem rd_3 {s : RS} (c : Int32) (h : s.1 = 3) : rdStep s c = if c = 59 then some (0, s.2.1, s.2.2.1, s.2.2.2.1, s.2.2.2.2) else if s.2.2.2.1 = 43 ∧ s.2.1 < 6 ∧ 0 ≤ c - 48 ∧ c - 48 ≤ 9 then some (s.1, s.2.1 + 1, s.2.2.1, s.2.2.2.1, 10 * s.2.2.2.2 + (c - 48)) else none := (if_neg (by rw [h]; decide)).trans ((if_neg (by rw [h]; decide)).trans (if_neg (by rw [h]; decide)))
def atR (bu : Nat → Int32) (k : Nat) (t : RS) : Prop := errN bu rs0 k = k ∧ rdEnd bu rs0 k = t
section
variable {bu tx : Nat → Int32} {ln p k : Nat} {t t2 : RS} {c : Int32}
theorem atR.go (h : atR bu k t) (hc : bu k = c) (e : rdStep t c = some t2) : atR bu (k + 1) t2 := by
  obtain ⟨h1, h2⟩ := h
  subst hc
  rw [← h2] at e
  refine ⟨errN_yes h1 (by rw [e]; rfl), ?_⟩
  show (rdStep (rdEnd bu rs0 k) (bu k)).getD _ = _
  rw [e]
  rfl
theorem atR.no (h : atR bu k t) (hc : bu k = c) (e : rdStep t c = none) {n : Nat} (hn : k < n) : errN bu rs0 n = k := by
  obtain ⟨h1, h2⟩ := h
  subst hc
  rw [← h2] at e
  have := errN_no h1 e (n - k - 1)
  rwa [show k + (n - k - 1 + 1) = n by omega] at this
theorem bnC_f (tx : Nat → Int32) (lw p : Nat) : ∀ n, (∀ k, k < bnC tx lw p n → isDg tx lw p k) ∧ (bnC tx lw p n < n → ¬ isDg tx lw p (bnC tx lw p n))
  | 0 => ⟨fun k h => absurd h (Nat.not_lt_zero _), fun h => absurd h (Nat.lt_irrefl 0)⟩
  | n + 1 => by
    obtain ⟨h1, h2⟩ := bnC_f tx lw p n
    have hle := bnC_le tx lw p n
    by_cases c : bnC tx lw p n = n ∧ isDg tx lw p n
    · have e : bnC tx lw p (n + 1) = n + 1 := if_pos c
      rw [e]
      refine ⟨fun k hk => ?_, fun h => absurd h (Nat.lt_irrefl _)⟩
      by_cases q : k = n
      · subst q; exact c.2
      · exact h1 k (by omega)
    · have e : bnC tx lw p (n + 1) = bnC tx lw p n := if_neg c
      rw [e]
      refine ⟨h1, fun _ => ?_⟩
      by_cases q : bnC tx lw p n = n
      · rw [q]; exact fun z => c ⟨q, z⟩
      · exact h2 (by omega)
theorem chF_in (h : p < ln) : chF tx ln p = tx p := if_pos h
theorem chF_out (h : ¬ p < ln) : chF tx ln p = 0 := if_neg h
theorem dgF_lt (h : 0 ≤ dgF tx ln p) : p < ln := by
  apply Classical.byContradiction
  intro q
  rw [show dgF tx ln p = chF tx ln p - 48 from rfl, chF_out q] at h
  exact absurd h (by decide)
theorem chF_lt (h : ¬ chF tx ln p = 0) : p < ln := Classical.byContradiction (fun q => h (chF_out q))
theorem bu_ch (hbt : ∀ k, k < ln → bu k = tx k) (h : p < ln) : bu p = chF tx ln p := (hbt p h).trans (chF_in h).symm
theorem dig_59 (h : 0 ≤ dgF tx ln p ∧ dgF tx ln p ≤ 9) : ¬ chF tx ln p = 59 := fun q => by
  have h2 := h.2
  rw [show dgF tx ln p = chF tx ln p - 48 from rfl, q] at h2
  exact absurd h2 (by decide)
theorem isDg_r (h : isDg tx ln p k) : 0 ≤ dgF tx ln (p + k) ∧ dgF tx ln (p + k) ≤ 9 := by
  refine ⟨?_, h.2⟩
  have h1 := h.1
  split at h1
  · exact Int32.le_trans (by decide) h1
  · exact h1
/-- behind the digit of a cord and a sign -/
theorem rd_pre (hbt : ∀ k, k < ln → bu k = tx k) (h : atR bu p t) (h0 : t.1 = 0) (hd : 0 ≤ dgF tx ln p ∧ dgF tx ln p ≤ 6) (hk : chF tx ln (p + 1) = 43 ∨ chF tx ln (p + 1) = 62 ∨ chF tx ln (p + 1) = 126) : atR bu (p + 2) (2, t.2.1, dgF tx ln p, chF tx ln (p + 1), t.2.2.2.2) := by
  have l1 : p + 1 < ln := chF_lt (by rcases hk with e | e | e <;> rw [e] <;> decide)
  have a1 : atR bu (p + 1) (1, t.2.1, dgF tx ln p, t.2.2.2.1, t.2.2.2.2) := h.go (bu_ch hbt (p := p) (by omega)) ((rd_0 _ h0).trans (if_pos ⟨hd.1, Int32.lt_of_le_of_lt hd.2 (by decide)⟩))
  exact a1.go (bu_ch hbt l1) ((rd_1 _ rfl).trans (if_pos hk))
theorem z_dig (x : Int32) : 10 * 0 + x = x := by grind
/-- the digits of a number -/
theorem rd_num (hbt : ∀ k, k < ln → bu k = tx k) {d co v : Int32} (h : atR bu (p + 2) (2, d, co, 43, v)) {m : Nat} (hm : ∀ k, k < m → isDg tx ln (p + 2) k) : ∀ j, j < m → j < 6 → atR bu (p + 2 + (j + 1)) (3, nI (j + 1), co, 43, numN tx ln (p + 2) (j + 1))
  | 0, hj, _ => by
    have hd := hm 0 hj
    have hl : p + 2 + 0 < ln := dgF_lt (isDg_r hd).1
    have e : numN tx ln (p + 2) 1 = chF tx ln (p + 2) - 48 := z_dig _
    rw [e]
    exact h.go (bu_ch hbt hl) ((rd_2 _ rfl).trans (if_pos (Or.inl ⟨rfl, hd.1, hd.2⟩)))
  | j + 1, hj, h6 => by
    have ih := rd_num hbt h hm j (by omega) (by omega)
    have hd := isDg_r (hm (j + 1) hj)
    have hl : p + 2 + (j + 1) < ln := dgF_lt hd.1
    have e : nI (j + 1) + 1 = nI (j + 1 + 1) := nI_1 _
    have e2 : (3, nI (j + 1 + 1), co, 43, numN tx ln (p + 2) (j + 1 + 1)) = ((3, nI (j + 1) + 1, co, 43, 10 * numN tx ln (p + 2) (j + 1) + (chF tx ln (p + 2 + (j + 1)) - 48)) : RS) := by rw [e]; rfl
    rw [e2]
    exact ih.go (bu_ch hbt hl) ((rd_3 _ rfl).trans ((if_neg (dig_59 hd)).trans (if_pos ⟨rfl, nI_lt (b := 6) h6 (by decide), hd.1, hd.2⟩)))
/-- what stands of a number -/
theorem num_b (tx : Nat → Int32) (ln p : Nat) : ∀ m, m ≤ 6 → (∀ k, k < m → 0 ≤ dgF tx ln (p + k) ∧ dgF tx ln (p + k) ≤ 9) → 0 ≤ (numN tx ln p m).toInt ∧ (numN tx ln p m).toInt < ((10 ^ m : Nat) : Int)
  | 0, _, _ => ⟨Int.le_refl _, by show (0 : Int32).toInt < ((10 ^ 0 : Nat) : Int); decide⟩
  | m + 1, hm, h => by
    obtain ⟨h1, h2⟩ := num_b tx ln p m (by omega) (fun k hk => h k (by omega))
    obtain ⟨h3, h4⟩ := h m (by omega)
    rw [Int32.le_iff_toInt_le] at h3 h4
    have e0 : (0 : Int32).toInt = 0 := rfl
    have e9 : (9 : Int32).toInt = 9 := rfl
    rw [e0] at h3
    rw [e9] at h4
    have hp : 10 ^ m ≤ 10 ^ 5 := Nat.pow_le_pow_right (by decide) (by omega)
    have e : 10 ^ (m + 1) = 10 ^ m * 10 := Nat.pow_succ ..
    have e1 : (10 * numN tx ln p m).toInt = 10 * (numN tx ln p m).toInt := i_m10 (by omega) (by omega)
    show 0 ≤ (10 * numN tx ln p m + dgF tx ln (p + m)).toInt ∧ (10 * numN tx ln p m + dgF tx ln (p + m)).toInt < _
    rw [i_add (by omega) (by omega), e1, e]
    omega
theorem num_1 (tx : Nat → Int32) (ln p : Nat) : ∀ m, m < 6 → (∀ k, k < m + 1 → isDg tx ln p k) → 1 ≤ (numN tx ln p (m + 1)).toInt
  | 0, _, h => by
    have h1 := (h 0 (by decide)).1
    rw [if_pos rfl, Int32.le_iff_toInt_le] at h1
    have e : numN tx ln p 1 = dgF tx ln (p + 0) := z_dig _
    rw [e]
    exact h1
  | m + 1, hm, h => by
    have h1 := num_1 tx ln p m (by omega) (fun k hk => h k (by omega))
    have h2 := num_b tx ln p (m + 1) (by omega) (fun k hk => isDg_r (h k (by omega)))
    obtain ⟨h3, h4⟩ := isDg_r (h (m + 1) (by omega))
    rw [Int32.le_iff_toInt_le] at h3 h4
    have e0 : (0 : Int32).toInt = 0 := rfl
    have e9 : (9 : Int32).toInt = 9 := rfl
    rw [e0] at h3
    rw [e9] at h4
    have hp : 10 ^ (m + 1) ≤ 10 ^ 5 := Nat.pow_le_pow_right (by decide) (by omega)
    have e1 : (10 * numN tx ln p (m + 1)).toInt = 10 * (numN tx ln p (m + 1)).toInt := i_m10 (by omega) (by omega)
    show 1 ≤ (10 * numN tx ln p (m + 1) + dgF tx ln (p + (m + 1))).toInt
    rw [i_add (by omega) (by omega), e1]
    omega
/-- what an order is read as -/
def rdO (tx : Nat → Int32) (ln p b : Nat) (t : RS) : Prop := t.1 = 3 ∧ t.2.2.1 = dgF tx ln p ∧ t.2.2.2.1 = chF tx ln (p + 1) ∧
  ((chF tx ln (p + 1) = 43 ∧ t.2.1 = nI (b - (p + 2)) ∧ b - (p + 2) ≤ 6 ∧ t.2.2.2.2 = numN tx ln (p + 2) (b - (p + 2)) ∧ (b - (p + 2) < 6 → ¬ (0 ≤ dgF tx ln b ∧ dgF tx ln b ≤ 9)) ∧ 1 ≤ t.2.2.2.2.toInt ∧ t.2.2.2.2.toInt ≤ 999999) ∨
   (chF tx ln (p + 1) = 62 ∧ t.2.2.2.2 = dgF tx ln (p + 2)) ∨ (chF tx ln (p + 1) = 126 ∧ t.2.2.2.2 = dgF tx ln (p + 2)))
theorem rd_ord (hbt : ∀ k, k < ln → bu k = tx k) (h : atR bu p t) (h0 : t.1 = 0) {b : Nat} (hB : boR tx ln p = .inl b) : b ≤ ln ∧ (∀ k, p ≤ k → k < b → ¬ bu k = 59) ∧ ∃ t3, atR bu b t3 ∧ rdO tx ln p b t3 := by
  have sign : ∀ {x : Int32}, chF tx ln (p + 1) = x → ¬ x = 59 → ¬ x = 0 → p + 1 < ln ∧ ¬ bu (p + 1) = 59 := fun {x} e h9 h0 => by
    have l1 : p + 1 < ln := chF_lt (by rw [e]; exact h0)
    exact ⟨l1, by rw [bu_ch hbt l1, e]; exact h9⟩
  have dg : ∀ {q : Nat}, 0 ≤ dgF tx ln q → dgF tx ln q ≤ 9 → ¬ bu q = 59 := fun {q} h1 h2 => by rw [bu_ch hbt (dgF_lt h1)]; exact dig_59 ⟨h1, h2⟩
  unfold boR at hB
  split at hB
  · rename_i hd
    have hd9 : dgF tx ln p ≤ 9 := Int32.le_trans hd.2 (by decide)
    split at hB
    · rename_i hk
      obtain ⟨l1, n1⟩ := sign hk (by decide) (by decide)
      have a2 := rd_pre hbt h h0 hd (Or.inl hk)
      split at hB
      · cases hB
      · rename_i hm
        obtain ⟨f1, f2⟩ := bnC_f tx ln (p + 2) 6
        have hm6 := bnC_le tx ln (p + 2) 6
        obtain ⟨m, em⟩ : ∃ m, bnC tx ln (p + 2) 6 = m + 1 := ⟨bnC tx ln (p + 2) 6 - 1, by omega⟩
        rw [em] at f1 f2 hm6
        injection hB with hB
        rw [em] at hB
        subst hB
        rw [hk] at a2
        have a3 := rd_num hbt a2 f1 m (by omega) (by omega)
        have hl : p + 2 + m < ln := dgF_lt (isDg_r (f1 m (by omega))).1
        have e2 : p + 2 + (m + 1) - (p + 2) = m + 1 := by omega
        refine ⟨by omega, fun k k1 k2 => ?_, _, a3, rfl, rfl, hk.symm, Or.inl ⟨hk, ?_, ?_, ?_, ?_, ?_, ?_⟩⟩
        · by_cases q0 : k = p
          · subst q0; exact dg hd.1 hd9
          · by_cases q1 : k = p + 1
            · subst q1; exact n1
            · have hq := isDg_r (f1 (k - (p + 2)) (by omega))
              rw [show p + 2 + (k - (p + 2)) = k by omega] at hq
              exact dg hq.1 hq.2
        · rw [e2]
        · rw [e2]; omega
        · rw [e2]
        · rw [e2]
          intro q z
          exact f2 q ⟨by rw [if_neg (by omega)]; exact z.1, z.2⟩
        · exact num_1 tx ln (p + 2) m (by omega) f1
        · have h1 := num_b tx ln (p + 2) (m + 1) (by omega) (fun k hk => isDg_r (f1 k hk))
          have h2 : 10 ^ (m + 1) ≤ 10 ^ 6 := Nat.pow_le_pow_right (by decide) (by omega)
          show (numN tx ln (p + 2) (m + 1)).toInt ≤ 999999
          omega
    · split at hB
      · rename_i hk
        obtain ⟨l1, n1⟩ := sign hk (by decide) (by decide)
        have a2 := rd_pre hbt h h0 hd (Or.inr (Or.inl hk))
        rw [hk] at a2
        split at hB
        · rename_i hv
          injection hB with hB
          subst hB
          have hl : p + 2 < ln := dgF_lt hv.1.1
          have a3 := a2.go (bu_ch hbt hl) ((rd_2 _ rfl).trans (if_pos (Or.inr (Or.inl ⟨(by decide : (62 : Int32) ≠ 43), rfl, hv.1.1, Int32.lt_of_le_of_lt hv.1.2 (by decide), hv.2⟩))))
          refine ⟨by omega, fun k k1 k2 => ?_, _, a3, rfl, rfl, hk.symm, Or.inr (Or.inl ⟨hk, rfl⟩)⟩
          by_cases q0 : k = p
          · subst q0; exact dg hd.1 hd9
          · by_cases q1 : k = p + 1
            · subst q1; exact n1
            · have q2 : k = p + 2 := by omega
              subst q2; exact dg hv.1.1 (Int32.le_trans hv.1.2 (by decide))
        · cases hB
      · split at hB
        · rename_i hk
          obtain ⟨l1, n1⟩ := sign hk (by decide) (by decide)
          have a2 := rd_pre hbt h h0 hd (Or.inr (Or.inr hk))
          rw [hk] at a2
          split at hB
          · rename_i hv
            injection hB with hB
            subst hB
            have hl : p + 2 < ln := dgF_lt hv.1
            have a3 := a2.go (bu_ch hbt hl) ((rd_2 _ rfl).trans (if_pos (Or.inr (Or.inr ⟨(by decide : (126 : Int32) ≠ 43), (by decide : (126 : Int32) ≠ 62), hv.1, Int32.lt_of_le_of_lt hv.2 (by decide)⟩))))
            refine ⟨by omega, fun k k1 k2 => ?_, _, a3, rfl, rfl, hk.symm, Or.inr (Or.inr ⟨hk, rfl⟩)⟩
            by_cases q0 : k = p
            · subst q0; exact dg hd.1 hd9
            · by_cases q1 : k = p + 1
              · subst q1; exact n1
              · have q2 : k = p + 2 := by omega
                subst q2; exact dg hv.1 (Int32.le_trans hv.2 (by decide))
          · cases hB
        · cases hB
  · cases hB
/-- where the text is wrong, the reader stands -/
theorem rd_bad (hbt : ∀ k, k < ln → bu k = tx k) (h : atR bu p t) (h0 : t.1 = 0) (hp : p ≤ ln) {e : Nat} (hB : boR tx ln p = .inr e) : e ≤ ln ∧ errN bu rs0 ln = e ∧ ¬ (errN bu rs0 ln = ln ∧ (rdEnd bu rs0 ln).1 = 3) := by
  -- a place where the reader does not go on
  have stop : ∀ {q : Nat} {u : RS}, atR bu q u → q ≤ ln → ¬ u.1 = 3 → (q < ln → rdStep u (chF tx ln q) = none) → q ≤ ln ∧ errN bu rs0 ln = q ∧ ¬ (errN bu rs0 ln = ln ∧ (rdEnd bu rs0 ln).1 = 3) := by
    intro q u hu hq h3 hn
    by_cases c : q < ln
    · have := hu.no (bu_ch hbt c) (hn c) c
      exact ⟨hq, this, fun z => by omega⟩
    · have e : q = ln := by omega
      subst e
      exact ⟨hq, hu.1, fun z => h3 (by rw [← hu.2]; exact z.2)⟩
  unfold boR at hB
  split at hB
  · rename_i hd
    have l0 : p < ln := dgF_lt hd.1
    split at hB
    · rename_i hk
      have l1 : p + 1 < ln := chF_lt (by rw [hk]; decide)
      have a2 := rd_pre hbt h h0 hd (Or.inl hk)
      rw [hk] at a2
      split at hB
      · rename_i hm
        injection hB with hB
        subst hB
        refine stop a2 (by omega) (by decide : ¬ (2 : Int32) = 3) (fun hl => (rd_2 _ rfl).trans (if_neg ?_))
        obtain ⟨f1, f2⟩ := bnC_f tx ln (p + 2) 6
        rw [hm] at f2
        rintro (z | z | z)
        · exact f2 (by decide) ⟨z.2.1, z.2.2⟩
        · exact z.1 rfl
        · exact z.1 rfl
      · cases hB
    · rename_i n43
      split at hB
      · rename_i hk
        have l1 : p + 1 < ln := chF_lt (by rw [hk]; decide)
        have a2 := rd_pre hbt h h0 hd (Or.inr (Or.inl hk))
        rw [hk] at a2
        split at hB
        · cases hB
        · rename_i hv
          injection hB with hB
          subst hB
          refine stop a2 (by omega) (by decide : ¬ (2 : Int32) = 3) (fun hl => (rd_2 _ rfl).trans (if_neg ?_))
          rintro (z | z | z)
          · exact absurd z.1 (by decide : ¬ (62 : Int32) = 43)
          · exact hv ⟨⟨z.2.2.1, Int32.not_lt.mp (fun q => by
              have h1 := z.2.2.2.1
              rw [Int32.lt_iff_toInt_lt] at h1 q
              have e6 : (6 : Int32).toInt = 6 := rfl
              have e7 : (7 : Int32).toInt = 7 := rfl
              have eq : (dgF tx ln (p + 2)).toInt = (chF tx ln (p + 2) - 48).toInt := rfl
              omega)⟩, z.2.2.2.2⟩
          · exact z.2.1 rfl
      · rename_i n62
        split at hB
        · rename_i hk
          have l1 : p + 1 < ln := chF_lt (by rw [hk]; decide)
          have a2 := rd_pre hbt h h0 hd (Or.inr (Or.inr hk))
          rw [hk] at a2
          split at hB
          · cases hB
          · rename_i hv
            injection hB with hB
            subst hB
            refine stop a2 (by omega) (by decide : ¬ (2 : Int32) = 3) (fun hl => (rd_2 _ rfl).trans (if_neg ?_))
            rintro (z | z | z)
            · exact absurd z.1 (by decide : ¬ (126 : Int32) = 43)
            · exact absurd z.2.1 (by decide : ¬ (126 : Int32) = 62)
            · exact hv ⟨z.2.2.1, Int32.not_lt.mp (fun q => by
                have h1 := z.2.2.2
                rw [Int32.lt_iff_toInt_lt] at h1 q
                have e6 : (6 : Int32).toInt = 6 := rfl
                have e5 : (5 : Int32).toInt = 5 := rfl
                have eq : (dgF tx ln (p + 2)).toInt = (chF tx ln (p + 2) - 48).toInt := rfl
                omega)⟩
        · rename_i n126
          injection hB with hB
          subst hB
          have a1 : atR bu (p + 1) (1, t.2.1, dgF tx ln p, t.2.2.2.1, t.2.2.2.2) := h.go (bu_ch hbt l0) ((rd_0 _ h0).trans (if_pos ⟨hd.1, Int32.lt_of_le_of_lt hd.2 (by decide)⟩))
          exact stop a1 (by omega) (by decide : ¬ (1 : Int32) = 3) (fun hl => (rd_1 _ rfl).trans (if_neg (by rintro (z | z | z); exact n43 z; exact n62 z; exact n126 z)))
  · rename_i hd
    injection hB with hB
    subst hB
    refine stop h hp (by rw [h0]; decide) (fun hl => (rd_0 _ h0).trans (if_neg (fun z => hd ⟨z.1, Int32.not_lt.mp (fun q => ?_)⟩)))
    have h1 := z.2
    rw [Int32.lt_iff_toInt_lt] at h1 q
    have e6 : (6 : Int32).toInt = 6 := rfl
    have e7 : (7 : Int32).toInt = 7 := rfl
    have eq : (dgF tx ln p).toInt = (chF tx ln p - 48).toInt := rfl
    omega
/-- behind an order: ';' and on, or no further -/
theorem rd_behind (hbt : ∀ k, k < ln → bu k = tx k) {b : Nat} (h : atR bu b t) (hO : rdO tx ln p b t) (hb : b < ln) : (tx b = 59 → ∃ u, atR bu (b + 1) u ∧ u.1 = 0) ∧ (¬ tx b = 59 → errN bu rs0 ln = b) := by
  obtain ⟨h3, -, hk, hv⟩ := hO
  constructor
  · intro e
    exact ⟨_, h.go ((hbt b hb).trans e) ((rd_3 _ h3).trans (if_pos rfl)), rfl⟩
  · intro e
    refine h.no (bu_ch hbt hb) ((rd_3 _ h3).trans ((if_neg (by rw [chF_in hb]; exact e)).trans (if_neg (fun z => ?_)))) hb
    rcases hv with ⟨v1, v2, v3, v4, v5, -⟩ | ⟨v1, -⟩ | ⟨v1, -⟩
    · have z2 := z.2.1
      rw [v2] at z2
      exact v5 ((nI_ltI (b := 6) (by omega) (by decide)).mp z2) ⟨z.2.2.1, z.2.2.2⟩
    · rw [hk, v1] at z; exact absurd z.1 (by decide)
    · rw [hk, v1] at z; exact absurd z.1 (by decide)
theorem wr_eq (hbt : ∀ k, k < ln → bu k = tx k) : ∀ (f p : Nat) (t : RS), atR bu p t → t.1 = 0 → p ≤ ln → ln - p < f → (wrR tx ln f p = none → errN bu rs0 ln = ln ∧ (rdEnd bu rs0 ln).1 = 3) ∧ ∀ e, wrR tx ln f p = some e → errN bu rs0 ln = e ∧ ¬ (errN bu rs0 ln = ln ∧ (rdEnd bu rs0 ln).1 = 3)
  | 0, p, t, _, _, _, hf => absurd hf (Nat.not_lt_zero _)
  | f + 1, p, t, h, h0, hp, hf => by
    cases hB : boR tx ln p with
    | inr e =>
      rw [wrR_e hB]
      have := rd_bad hbt h h0 hp hB
      exact ⟨fun q => (by cases q), fun e2 q => by cases q; exact this.2⟩
    | inl b =>
      rw [wrR_b hB]
      obtain ⟨b1, b2, t3, b3, b4⟩ := rd_ord hbt h h0 hB
      have b5 := boR_le hB
      by_cases c : b < ln
      · rw [if_pos c]
        obtain ⟨g1, g2⟩ := rd_behind hbt b3 b4 c
        by_cases c2 : tx b = 59
        · rw [if_pos c2]
          obtain ⟨u, u1, u2⟩ := g1 c2
          exact wr_eq hbt f (b + 1) u u1 u2 (by omega) (by omega)
        · rw [if_neg c2]
          refine ⟨fun q => (by cases q), fun e q => ?_⟩
          cases q
          have := g2 c2
          exact ⟨this, fun z => by omega⟩
      · rw [if_neg c]
        have e : b = ln := by omega
        subst e
        exact ⟨fun _ => ⟨b3.1, by rw [b3.2]; exact b4.1⟩, fun e q => by cases q⟩
theorem atR_0 : atR bu 0 rs0 := ⟨rfl, rfl⟩
theorem wr_none (hbt : ∀ k, k < ln → bu k = tx k) : wrR tx ln (ln + 1) 0 = none ↔ errN bu rs0 ln = ln ∧ (rdEnd bu rs0 ln).1 = 3 := by
  have h := wr_eq hbt (ln + 1) 0 rs0 atR_0 rfl (Nat.zero_le _) (by omega)
  refine ⟨h.1, fun q => ?_⟩
  cases e : wrR tx ln (ln + 1) 0 with
  | none => rfl
  | some x => exact absurd q (h.2 x e).2
/-- the first error -/
theorem err_eq (hbt : ∀ k, k < ln → bu k = tx k) : nI (errN bu rs0 ln) = if wrR tx ln (ln + 1) 0 = none then nI ln else wrV (wrR tx ln (ln + 1) 0) := by
  have h := wr_eq hbt (ln + 1) 0 rs0 atR_0 rfl (Nat.zero_le _) (by omega)
  cases e : wrR tx ln (ln + 1) 0 with
  | none => rw [if_pos rfl, (h.1 e).1]
  | some x => rw [if_neg (by simp), (h.2 x e).1]; rfl
end
