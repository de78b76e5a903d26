/-! ===== what holds of the class's numbers at all times: a cord's places ===== -/
theorem i_add {a b : Int32} (h1 : -2147483648 ≤ a.toInt + b.toInt) (h2 : a.toInt + b.toInt ≤ 2147483647) : (a + b).toInt = a.toInt + b.toInt := by
  rw [Int32.toInt_add, Int.bmod_eq_of_le (by omega) (by omega)]
theorem i_sub {a b : Int32} (h1 : -2147483648 ≤ a.toInt - b.toInt) (h2 : a.toInt - b.toInt ≤ 2147483647) : (a - b).toInt = a.toInt - b.toInt := by
  rw [Int32.toInt_sub, Int.bmod_eq_of_le (by omega) (by omega)]
theorem i_10 : (10 : Int32).toInt = 10 := rfl
theorem i_m10 {a : Int32} (h1 : -200000000 ≤ a.toInt) (h2 : a.toInt ≤ 200000000) : (10 * a).toInt = 10 * a.toInt := by
  rw [Int32.toInt_mul, i_10, Int.bmod_eq_of_le (by omega) (by omega)]
theorem i_t10 {a : Int32} (h1 : -200000000 ≤ a.toInt) (h2 : a.toInt ≤ 200000000) : (a * 10).toInt = 10 * a.toInt := by
  rw [Int32.toInt_mul, i_10, Int.bmod_eq_of_le (by omega) (by omega)]
  omega
theorem i_d10 {a : Int32} (h : 0 ≤ a.toInt) : (a / 10).toInt = a.toInt / 10 := by
  have := Int32.toInt_lt a
  rw [Int32.toInt_div, i_10, Int.tdiv_eq_ediv_of_nonneg h, Int.bmod_eq_of_le (by omega) (by omega)]
def plOK (kn lo : Nat → Int32) : Prop := ∀ p, p < 6 → 0 ≤ (kn p).toInt ∧ 0 ≤ (lo p).toInt ∧ (kn p).toInt + (lo p).toInt ≤ 99 ∧ 10 * (lo p).toInt ≤ (kn p).toInt ∧ (kn p).toInt ≤ 10 * (lo p).toInt + 9
abbrev opI (kn lo : Nat → Int32) (p : Nat) : Int := (kn p).toInt - 10 * (lo p).toInt
section
variable {kn lo : Nat → Int32} {num room : Int32}
theorem plOK.congr {kn2 lo2 : Nat → Int32} (h : plOK kn lo) (h1 : ∀ p, p < 6 → kn2 p = kn p) (h2 : ∀ p, p < 6 → lo2 p = lo p) : plOK kn2 lo2 := fun p hp => by rw [h1 p hp, h2 p hp]; exact h p hp
theorem opn_i (h : plOK kn lo) {p : Nat} (hp : p < 6) : (opn kn lo p).toInt = opI kn lo p := by
  obtain ⟨h1, h2, h3, h4, h5⟩ := h p hp
  have e : (10 * lo p).toInt = 10 * (lo p).toInt := i_m10 (by omega) (by omega)
  show (kn p - 10 * lo p).toInt = _
  rw [i_sub (by omega) (by omega), e]
theorem opI_r (h : plOK kn lo) {p : Nat} (hp : p < 6) : 0 ≤ opI kn lo p ∧ opI kn lo p ≤ 9 := by
  obtain ⟨h1, h2, h3, h4, h5⟩ := h p hp
  have e : opI kn lo p = (kn p).toInt - 10 * (lo p).toInt := rfl
  omega
theorem tld_st (h : plOK kn lo) {k : Nat} (hk : k < 6) (h0 : 0 ≤ (tld kn lo k).toInt) (h9 : (tld kn lo k).toInt ≤ 99999) : (tld kn lo (k + 1)).toInt = 10 * (tld kn lo k).toInt + opI kn lo (5 - k) := by
  have e1 := opn_i h (p := 5 - k) (by omega)
  have e2 := opI_r h (p := 5 - k) (by omega)
  have e3 : (10 * tld kn lo k).toInt = 10 * (tld kn lo k).toInt := i_m10 (by omega) (by omega)
  show (10 * tld kn lo k + opn kn lo (5 - k)).toInt = _
  rw [i_add (by omega) (by omega), e3, e1]
theorem tld_i (h : plOK kn lo) : (tld kn lo 6).toInt = opI kn lo 0 + 10 * opI kn lo 1 + 100 * opI kn lo 2 + 1000 * opI kn lo 3 + 10000 * opI kn lo 4 + 100000 * opI kn lo 5 := by
  have r0 := opI_r h (p := 0) (by decide)
  have r1 := opI_r h (p := 1) (by decide)
  have r2 := opI_r h (p := 2) (by decide)
  have r3 := opI_r h (p := 3) (by decide)
  have r4 := opI_r h (p := 4) (by decide)
  have r5 := opI_r h (p := 5) (by decide)
  have t0 : (tld kn lo 0).toInt = 0 := rfl
  have t1 : (tld kn lo 1).toInt = 10 * (tld kn lo 0).toInt + opI kn lo 5 := tld_st h (by decide) (by omega) (by omega)
  have t2 : (tld kn lo 2).toInt = 10 * (tld kn lo 1).toInt + opI kn lo 4 := tld_st h (by decide) (by omega) (by omega)
  have t3 : (tld kn lo 3).toInt = 10 * (tld kn lo 2).toInt + opI kn lo 3 := tld_st h (by decide) (by omega) (by omega)
  have t4 : (tld kn lo 4).toInt = 10 * (tld kn lo 3).toInt + opI kn lo 2 := tld_st h (by decide) (by omega) (by omega)
  have t5 : (tld kn lo 5).toInt = 10 * (tld kn lo 4).toInt + opI kn lo 1 := tld_st h (by decide) (by omega) (by omega)
  have t6 : (tld kn lo 6).toInt = 10 * (tld kn lo 5).toInt + opI kn lo 0 := tld_st h (by decide) (by omega) (by omega)
  omega
theorem tld_r (h : plOK kn lo) : 0 ≤ (tld kn lo 6).toInt ∧ (tld kn lo 6).toInt ≤ 999999 := by
  have r0 := opI_r h (p := 0) (by decide)
  have r1 := opI_r h (p := 1) (by decide)
  have r2 := opI_r h (p := 2) (by decide)
  have r3 := opI_r h (p := 3) (by decide)
  have r4 := opI_r h (p := 4) (by decide)
  have r5 := opI_r h (p := 5) (by decide)
  have := tld_i h
  omega
theorem lr_i (h0 : 0 ≤ num.toInt) : ∀ p, 0 ≤ (lrest num p).toInt ∧ (lrest num p).toInt ≤ num.toInt
  | 0 => ⟨h0, Int.le_refl _⟩
  | p + 1 => by
    obtain ⟨h1, h2⟩ := lr_i h0 p
    show 0 ≤ (lrest num p / 10).toInt ∧ (lrest num p / 10).toInt ≤ num.toInt
    rw [i_d10 h1]
    omega
theorem lr_s (h0 : 0 ≤ num.toInt) (p : Nat) : 10 * (lrest num (p + 1)).toInt ≤ (lrest num p).toInt ∧ (lrest num p).toInt ≤ 10 * (lrest num (p + 1)).toInt + 9 := by
  obtain ⟨h1, h2⟩ := lr_i h0 p
  have e : (lrest num (p + 1)).toInt = (lrest num p).toInt / 10 := i_d10 h1
  omega
theorem mK_of (h0 : 0 ≤ num.toInt) (h9 : num.toInt ≤ 999999) {p : Nat} (hc : 0 ≤ (lcar kn lo num p).toInt ∧ (lcar kn lo num p).toInt ≤ 1) : (mK kn lo num p).toInt = (lrest num p).toInt - 10 * (lrest num (p + 1)).toInt + (lcar kn lo num p).toInt ∧ 0 ≤ (mK kn lo num p).toInt ∧ (mK kn lo num p).toInt ≤ 10 := by
  obtain ⟨h1, h2⟩ := lr_i h0 p
  obtain ⟨h3, h4⟩ := lr_i h0 (p + 1)
  obtain ⟨h5, h6⟩ := lr_s h0 p
  have e1 : (lrest num p / 10 * 10).toInt = 10 * (lrest num (p + 1)).toInt := i_t10 (a := lrest num (p + 1)) (by omega) (by omega)
  have e2 : (lrest num p - lrest num p / 10 * 10).toInt = (lrest num p).toInt - 10 * (lrest num (p + 1)).toInt := by rw [i_sub (by omega) (by omega), e1]
  have e3 : (mK kn lo num p).toInt = (lrest num p).toInt - 10 * (lrest num (p + 1)).toInt + (lcar kn lo num p).toInt := by
    show (lrest num p - lrest num p / 10 * 10 + lcar kn lo num p).toInt = _
    rw [i_add (by omega) (by omega), e2]
  omega
theorem mL_of (h : plOK kn lo) {p : Nat} (hp : p < 6) (hm : 0 ≤ (mK kn lo num p).toInt ∧ (mK kn lo num p).toInt ≤ 10) : 10 * (mL kn lo num p).toInt ≤ opI kn lo p + (mK kn lo num p).toInt ∧ opI kn lo p + (mK kn lo num p).toInt ≤ 10 * (mL kn lo num p).toInt + 9 ∧ 0 ≤ (mL kn lo num p).toInt ∧ (mL kn lo num p).toInt ≤ 1 := by
  have e1 := opn_i h hp
  have e2 := opI_r h hp
  have e3 : (opn kn lo p + mK kn lo num p).toInt = opI kn lo p + (mK kn lo num p).toInt := by rw [i_add (by omega) (by omega), e1]
  have e4 : (mL kn lo num p).toInt = (opI kn lo p + (mK kn lo num p).toInt) / 10 := by
    show ((opn kn lo p + mK kn lo num p) / 10).toInt = _
    rw [i_d10 (by omega), e3]
  omega
theorem lc_i (h : plOK kn lo) (h0 : 0 ≤ num.toInt) (h9 : num.toInt ≤ 999999) : ∀ p, p ≤ 6 → 0 ≤ (lcar kn lo num p).toInt ∧ (lcar kn lo num p).toInt ≤ 1
  | 0, _ => ⟨Int.le_refl _, by show (0 : Int32).toInt ≤ 1; decide⟩
  | p + 1, hp => by
    have ih := lc_i h h0 h9 p (by omega)
    have hm := mK_of (kn := kn) (lo := lo) h0 h9 ih
    have hl := mL_of (num := num) h (p := p) (by omega) hm.2
    exact hl.2.2
/-- what is laid out at a place -/
theorem lay_i (h : plOK kn lo) (h0 : 0 ≤ num.toInt) (h9 : num.toInt ≤ 999999) {p : Nat} (hp : p < 6) : (mK kn lo num p).toInt = (lrest num p).toInt - 10 * (lrest num (p + 1)).toInt + (lcar kn lo num p).toInt ∧ 0 ≤ (mK kn lo num p).toInt ∧ (mK kn lo num p).toInt ≤ 10 ∧ 10 * (mL kn lo num p).toInt ≤ opI kn lo p + (mK kn lo num p).toInt ∧ opI kn lo p + (mK kn lo num p).toInt ≤ 10 * (mL kn lo num p).toInt + 9 ∧ 0 ≤ (mL kn lo num p).toInt ∧ (mL kn lo num p).toInt ≤ 1 := by
  have hm := mK_of (kn := kn) (lo := lo) h0 h9 (lc_i h h0 h9 p (by omega))
  have hl := mL_of (num := num) h hp hm.2
  exact ⟨hm.1, hm.2.1, hm.2.2, hl.1, hl.2.1, hl.2.2.1, hl.2.2.2⟩
theorem rsn_z : ∀ q, rsn kn lo num room q = 0 → ∀ p, p < q → ¬ (0 < mK kn lo num p + mL kn lo num p ∧ room < kn p + lo p + (mK kn lo num p + mL kn lo num p))
  | 0, _, p, hp => absurd hp (Nat.not_lt_zero _)
  | q + 1, h, p, hp => by
    have h1 : (if 0 < mK kn lo num q + mL kn lo num q ∧ room < kn q + lo q + (mK kn lo num q + mL kn lo num q) then 2 else rsn kn lo num room q) = 0 := h
    by_cases c : 0 < mK kn lo num q + mL kn lo num q ∧ room < kn q + lo q + (mK kn lo num q + mL kn lo num q)
    · rw [if_pos c] at h1; exact absurd h1 (by decide)
    · rw [if_neg c] at h1
      by_cases e : p = q
      · subst e; exact c
      · exact rsn_z q h1 p (by omega)
theorem tK_i (h : plOK kn lo) (h0 : 0 ≤ num.toInt) (h9 : num.toInt ≤ 999999) {p : Nat} (hp : p < 6) : (tK kn lo num 6 p).toInt = (kn p).toInt + (mK kn lo num p).toInt := by
  obtain ⟨a1, a2, a3, a4, a5, a6, a7⟩ := lay_i h h0 h9 hp
  obtain ⟨h1, h2, h3, h4, h5⟩ := h p hp
  show (if p < 6 then kn p + mK kn lo num p else kn p).toInt = _
  rw [if_pos hp, i_add (by omega) (by omega)]
theorem tL_i (h : plOK kn lo) (h0 : 0 ≤ num.toInt) (h9 : num.toInt ≤ 999999) {p : Nat} (hp : p < 6) : (tL kn lo num 6 p).toInt = (lo p).toInt + (mL kn lo num p).toInt := by
  obtain ⟨a1, a2, a3, a4, a5, a6, a7⟩ := lay_i h h0 h9 hp
  obtain ⟨h1, h2, h3, h4, h5⟩ := h p hp
  show (if p < 6 then lo p + mL kn lo num p else lo p).toInt = _
  rw [if_pos hp, i_add (by omega) (by omega)]
theorem pl_tie (h : plOK kn lo) (h0 : 0 ≤ num.toInt) (h9 : num.toInt ≤ 999999) (hr : room.toInt ≤ 99) (hn : rsn kn lo num room 6 = 0) : plOK (tK kn lo num 6) (tL kn lo num 6) := by
  intro p hp
  obtain ⟨a1, a2, a3, a4, a5, a6, a7⟩ := lay_i h h0 h9 hp
  obtain ⟨h1, h2, h3, h4, h5⟩ := h p hp
  have eo : opI kn lo p = (kn p).toInt - 10 * (lo p).toInt := rfl
  have z := rsn_z 6 hn p hp
  have e1 : (mK kn lo num p + mL kn lo num p).toInt = (mK kn lo num p).toInt + (mL kn lo num p).toInt := i_add (by omega) (by omega)
  have e2 : (kn p + lo p).toInt = (kn p).toInt + (lo p).toInt := i_add (by omega) (by omega)
  have e3 : (kn p + lo p + (mK kn lo num p + mL kn lo num p)).toInt = (kn p).toInt + (lo p).toInt + ((mK kn lo num p).toInt + (mL kn lo num p).toInt) := by rw [i_add (by omega) (by omega), e1, e2]
  rw [Int32.lt_iff_toInt_lt, Int32.lt_iff_toInt_lt, e1, e3] at z
  have e0 : (0 : Int32).toInt = 0 := rfl
  rw [e0] at z
  rw [tK_i h h0 h9 hp, tL_i h h0 h9 hp]
  omega
/-- a number that is tied is told, but what is carried beyond the last place -/
theorem tld_tie (h : plOK kn lo) (h0 : 0 ≤ num.toInt) (h9 : num.toInt ≤ 999999) (hT : plOK (tK kn lo num 6) (tL kn lo num 6)) : (tld (tK kn lo num 6) (tL kn lo num 6) 6).toInt ≤ (tld kn lo 6).toInt + num.toInt := by
  have o : ∀ p, p < 6 → opI (tK kn lo num 6) (tL kn lo num 6) p = opI kn lo p + ((lrest num p).toInt - 10 * (lrest num (p + 1)).toInt) + (lcar kn lo num p).toInt - 10 * (lcar kn lo num (p + 1)).toInt := by
    intro p hp
    obtain ⟨a1, -⟩ := lay_i h h0 h9 hp
    have e : (lcar kn lo num (p + 1)).toInt = (mL kn lo num p).toInt := rfl
    show (tK kn lo num 6 p).toInt - 10 * (tL kn lo num 6 p).toInt = (kn p).toInt - 10 * (lo p).toInt + _ + _ - _
    rw [tK_i h h0 h9 hp, tL_i h h0 h9 hp, e]
    omega
  have t1 := tld_i h
  have t2 := tld_i hT
  have o0 := o 0 (by decide)
  have o1 := o 1 (by decide)
  have o2 := o 2 (by decide)
  have o3 := o 3 (by decide)
  have o4 := o 4 (by decide)
  have o5 := o 5 (by decide)
  have c6 := (lc_i h h0 h9 6 (Nat.le_refl _)).1
  have c0 : (lcar kn lo num 0).toInt = 0 := rfl
  have r0 : (lrest num 0).toInt = num.toInt := rfl
  have r6 := (lr_i h0 6).1
  rw [o0, o1, o2, o3, o4, o5] at t2
  rw [t1, t2]
  simp only [Nat.zero_add, Nat.reduceAdd] at *
  omega
/-- sums of numbers within bounds -/
theorem sumN_b {f : Nat → Int32} {B : Nat} : ∀ (m : Nat), (∀ k, k < m → 0 ≤ (f k).toInt ∧ (f k).toInt ≤ B) → m * B < 2 ^ 31 → 0 ≤ (sumN f m).toInt ∧ (sumN f m).toInt ≤ ((m * B : Nat) : Int)
  | 0, _, _ => ⟨Int.le_refl _, by rw [Nat.zero_mul]; exact Int.le_refl _⟩
  | m + 1, h, hB => by
    have e : (m + 1) * B = m * B + B := Nat.succ_mul m B
    rw [e] at hB ⊢
    obtain ⟨h1, h2⟩ := sumN_b m (fun k hk => h k (by omega)) (by omega)
    obtain ⟨h3, h4⟩ := h m (by omega)
    show 0 ≤ (sumN f m + f m).toInt ∧ (sumN f m + f m).toInt ≤ _
    rw [i_add (by omega) (by omega)]
    omega
end
