/-! ===== what the law asks behind each change ===== -/
theorem sumN_one {f f2 : Nat → Int32} {d : Int32} {i : Nat} (hd : f2 i = f i + d) : ∀ m, i < m → (∀ k, k < m → k ≠ i → f2 k = f k) → sumN f2 m = sumN f m + d
  | 0, hi, _ => absurd hi (Nat.not_lt_zero _)
  | m + 1, hi, ho => by
    show sumN f2 m + f2 m = sumN f m + f m + d
    by_cases e : i = m
    · subst e
      rw [sumN_congr (m := i) (fun k hk => ho k (by omega) (by omega)), hd]
      exact (Int32.add_assoc _ _ _).symm
    · rw [sumN_one hd m (by omega) (fun k hk hn => ho k (by omega) hn), ho m (by omega) (fun q => e q.symm)]
      have h2 : ∀ a b c : Int32, a + b + c = a + c + b := by intro a b c; grind
      exact h2 _ _ _
theorem i_1 : (1 : Int32).toInt = 1 := rfl
theorem i_6n : (999999 : Int32).toInt = 999999 := rfl
section
variable {kn lo : Nat → Int32} {num room : Int32}
def dgN (num : Int32) (p : Nat) : Int32 := lrest num p - lrest num p / 10 * 10
theorem mK_sum (kn lo : Nat → Int32) (num : Int32) : sumN (mK kn lo num) 6 = sumN (dgN num) 6 + sumN (lcar kn lo num) 6 := by
  rw [← sumN_add]
  rfl
theorem car_sum (kn lo : Nat → Int32) (num : Int32) : sumN (mL kn lo num) 6 = sumN (lcar kn lo num) 6 + mL kn lo num 5 := by
  show 0 + mL kn lo num 0 + mL kn lo num 1 + mL kn lo num 2 + mL kn lo num 3 + mL kn lo num 4 + mL kn lo num 5 = 0 + 0 + mL kn lo num 0 + mL kn lo num 1 + mL kn lo num 2 + mL kn lo num 3 + mL kn lo num 4 + mL kn lo num 5
  rw [Int32.add_zero (a := (0 : Int32))]
theorem lr_6 (h0 : 0 ≤ num.toInt) (h9 : num.toInt ≤ 999999) : (lrest num 6).toInt = 0 := by
  have s0 := lr_s h0 0
  have s1 := lr_s h0 1
  have s2 := lr_s h0 2
  have s3 := lr_s h0 3
  have s4 := lr_s h0 4
  have s5 := lr_s h0 5
  have r := (lr_i h0 6).1
  have e : (lrest num 0).toInt = num.toInt := rfl
  simp only [Nat.zero_add, Nat.reduceAdd] at *
  omega
theorem tld_tieE (h : plOK kn lo) (h0 : 0 ≤ num.toInt) (h9 : num.toInt ≤ 999999) (hT : plOK (tK kn lo num 6) (tL kn lo num 6)) : (tld (tK kn lo num 6) (tL kn lo num 6) 6).toInt = (tld kn lo 6).toInt + num.toInt - 1000000 * (mL kn lo num 5).toInt := by
  have o : ∀ p, p < 6 → opI (tK kn lo num 6) (tL kn lo num 6) p = opI kn lo p + ((lrest num p).toInt - 10 * (lrest num (p + 1)).toInt) + (lcar kn lo num p).toInt - 10 * (lcar kn lo num (p + 1)).toInt := by
    intro p hp
    obtain ⟨a1, -⟩ := lay_i h h0 h9 hp
    have e : (lcar kn lo num (p + 1)).toInt = (mL kn lo num p).toInt := rfl
    show (tK kn lo num 6 p).toInt - 10 * (tL kn lo num 6 p).toInt = (kn p).toInt - 10 * (lo p).toInt + _ + _ - _
    rw [tK_i h h0 h9 hp, tL_i h h0 h9 hp, e]
    omega
  have t1 := tld_i h
  have t2 := tld_i hT
  have o0 := o 0 (by decide)
  have o1 := o 1 (by decide)
  have o2 := o 2 (by decide)
  have o3 := o 3 (by decide)
  have o4 := o 4 (by decide)
  have o5 := o 5 (by decide)
  have c6 : (lcar kn lo num 6).toInt = (mL kn lo num 5).toInt := rfl
  have c0 : (lcar kn lo num 0).toInt = 0 := rfl
  have r0 : (lrest num 0).toInt = num.toInt := rfl
  have r6 := lr_6 h0 h9
  rw [o0, o1, o2, o3, o4, o5] at t2
  rw [t1, t2, ← c6]
  simp only [Nat.zero_add, Nat.reduceAdd] at *
  omega
/-- a number that can be tied is told -/
theorem tie_all (h : plOK kn lo) (h0 : 0 ≤ num.toInt) (h9 : num.toInt ≤ 999999) (hr : room.toInt ≤ 99) (hn : rsn kn lo num room 6 = 0) (hs : tld kn lo 6 + num ≤ 999999) : mL kn lo num 5 = 0 ∧ tld (tK kn lo num 6) (tL kn lo num 6) 6 = tld kn lo 6 + num := by
  have hT := pl_tie h h0 h9 hr hn
  have hE := tld_tieE h h0 h9 hT
  have r1 := tld_r h
  have r2 := tld_r hT
  obtain ⟨a1, a2, a3, a4, a5, a6, a7⟩ := lay_i (num := num) h h0 h9 (p := 5) (by decide)
  have e : (tld kn lo 6 + num).toInt = (tld kn lo 6).toInt + num.toInt := i_add (by omega) (by omega)
  rw [Int32.le_iff_toInt_le, e, i_6n] at hs
  have z : (mL kn lo num 5).toInt = 0 := by omega
  refine ⟨Int32.toInt.inj (z.trans z_toI.symm), Int32.toInt.inj ?_⟩
  rw [e, hE, z]
  omega
/-- the knots that are tied: the digits, and one for each loop -/
theorem tie_kn (h : mL kn lo num 5 = 0) : sumN (mK kn lo num) 6 = sumN (dgN num) 6 + sumN (mL kn lo num) 6 := by
  rw [mK_sum, car_sum, h, Int32.add_zero]
theorem dg_z (h0 : 0 ≤ num.toInt) {p : Nat} (c : lrest num p ≤ 0) : ∀ q, lrest num (p + q) = 0
  | 0 => by
    rw [Int32.le_iff_toInt_le, z_toI] at c
    have := (lr_i h0 p).1
    exact Int32.toInt.inj (by rw [z_toI]; show (lrest num p).toInt = 0; omega)
  | q + 1 => by
    show lrest num (p + q) / 10 = 0
    rw [dg_z h0 c q]
    decide
theorem dg_end (h0 : 0 ≤ num.toInt) {p : Nat} (c : lrest num p ≤ 0) : ∀ q, sumN (dgN num) (p + q) = sumN (dgN num) p
  | 0 => rfl
  | q + 1 => by
    show sumN (dgN num) (p + q) + (lrest num (p + q) - lrest num (p + q) / 10 * 10) = _
    rw [dg_end h0 c q, dg_z h0 c q]
    exact Int32.add_zero _
theorem dg_6 (h0 : 0 ≤ num.toInt) {p : Nat} (hp : p ≤ 6) (c : lrest num p ≤ 0) : sumN (dgN num) p = sumN (dgN num) 6 := by
  have := dg_end h0 c (6 - p)
  rw [Nat.add_sub_cancel' hp] at this
  exact this.symm
theorem dg_lt (h0 : 0 ≤ num.toInt) (h9 : num.toInt ≤ 999999) {p : Nat} (hp : p ≤ 6) (c : ¬ lrest num p ≤ 0) : p < 6 := by
  rcases Nat.lt_or_ge p 6 with q | q
  · exact q
  · have e : p = 6 := by omega
    subst e
    exfalso
    apply c
    rw [Int32.le_iff_toInt_le, z_toI, lr_6 h0 h9]
    exact Int.le_refl _
theorem hoN_sat (num room : Int32) : ∀ (f : Nat) (kn lo : Nat → Int32) (m : Nat), 16 - m ≤ f → hoN num room (f + 1) kn lo m = hoN num room f kn lo m
  | 0, kn, lo, m, hf => by
    show (if rop kn lo m num room = 0 then _ else 0) = 0
    refine if_neg (fun q => ?_)
    have := rop_lt q
    omega
  | f + 1, kn, lo, m, hf => by
    show (if rop kn lo m num room = 0 then hoN num room (f + 1) (tK kn lo num 6) (tL kn lo num 6) (m + 1) + 1 else 0) = if rop kn lo m num room = 0 then hoN num room f (tK kn lo num 6) (tL kn lo num 6) (m + 1) + 1 else 0
    rw [hoN_sat num room f _ _ (m + 1) (by omega)]
end
section
variable {st st2 : Nat → Int32} {i j : Nat} {num : Int32} {t : Nat}
theorem rop_3 (h : ¬ cRop st i num = 3) : cm st i < 16 := by
  rcases Nat.lt_or_ge (cm st i) 16 with c | c
  · exact c
  · exact absurd (if_neg (Nat.not_lt.mpr c)) h
theorem rop_r (hm : cm st i < 16) : cRop st i num = cRef st i num := if_pos hm
theorem ref_v (st : Nat → Int32) (i : Nat) (num : Int32) : cRef st i num = 0 ∨ cRef st i num = 1 ∨ cRef st i num = 2 := by
  unfold cRef refuse
  split
  · rcases rsn_02 (fK st i) (fL st i) num (st 5) 6 with e | e
    · exact Or.inl e
    · exact Or.inr (Or.inr e)
  · exact Or.inr (Or.inl rfl)
theorem rop_1 (hm : cm st i < 16) (h : ¬ cRop st i num = 1) : cTold st i + num ≤ 999999 := by
  rw [rop_r hm] at h
  unfold cRef refuse at h
  by_cases c : tld (fK st i) (fL st i) 6 + num ≤ 999999
  · exact c
  · rw [if_neg c] at h
    exact absurd rfl h
theorem rop_e3 (h : cRop st i num = 3) (hm : cm st i ≤ 16) : cm st i = 16 := by
  rcases Nat.lt_or_ge (cm st i) 16 with c | c
  · rw [rop_r c] at h
    rcases ref_v st i num with e | e | e <;> rw [e] at h <;> exact absurd h (by decide)
  · omega
theorem rop_e1 (h : cRop st i num = 1) : ¬ cTold st i + num ≤ 999999 := by
  intro q
  have hm : cm st i < 16 := rop_3 (by rw [h]; decide)
  rw [rop_r hm] at h
  have e : cRef st i num = rsn (fK st i) (fL st i) num (st 5) 6 := if_pos q
  rw [e] at h
  rcases rsn_02 (fK st i) (fL st i) num (st 5) 6 with e | e <;> rw [e] at h <;> exact absurd h (by decide)
theorem rop_v (st : Nat → Int32) (i : Nat) (num : Int32) : cRop st i num = 0 ∨ cRop st i num = 1 ∨ cRop st i num = 2 ∨ cRop st i num = 3 := by
  rcases Nat.lt_or_ge (cm st i) 16 with c | c
  · rw [rop_r c]
    rcases ref_v st i num with e | e | e
    · exact Or.inl e
    · exact Or.inr (Or.inl e)
    · exact Or.inr (Or.inr (Or.inl e))
  · exact Or.inr (Or.inr (Or.inr (if_neg (Nat.not_lt.mpr c))))
theorem rop_nle (h : ¬ cRop st i num = 0) : ¬ cRop st i num ≤ 0 := by
  rcases rop_v st i num with e | e | e | e
  · exact absurd e h
  all_goals rw [e]; decide
theorem rop_le (h : cRop st i num ≤ 0) : cRop st i num = 0 := Classical.byContradiction (fun q => rop_nle q h)
theorem rop_012 (h3 : ¬ cRop st i num = 3) (h1 : ¬ cRop st i num = 1) (h2 : ¬ cRop st i num = 2) : cRop st i num = 0 := by
  rcases rop_v st i num with e | e | e | e
  · exact e
  · exact absurd e h1
  · exact absurd e h2
  · exact absurd e h3
theorem ho_0 (h : ¬ cRop st i num = 0) : hoN num (st 5) 16 (fK st i) (fL st i) (cm st i) = 0 := if_neg h
theorem ho_1 (h : cRop st i num = 0) : hoN num (st 5) 16 (fK st i) (fL st i) (cm st i) = hoN num (tieF st i num 5) 16 (fK (tieF st i num) i) (fL (tieF st i num) i) (cm (tieF st i num) i) + 1 := by
  have hm := rop_lt h
  have e1 : hoN num (st 5) 16 (fK st i) (fL st i) (cm st i) = hoN num (st 5) 15 (tK (fK st i) (fL st i) num 6) (tL (fK st i) (fL st i) num 6) (cm st i + 1) + 1 := if_pos h
  rw [e1, tieF_5, tieF_cm hm, hoN_congr num (st 5) 16 (m := cm st i + 1) (fun p hp => tieF_K hm hp) (fun p hp => tieF_L hm hp), hoN_sat num (st 5) 15 _ _ (cm st i + 1) (by omega)]
/-! a cord that stays -/
theorem cf_same (e : ∀ x, x < 31 → st2 (6 + 31 * i + x) = st (6 + 31 * i + x)) (hm : cm st i ≤ 16) : cTold st2 i = cTold st i ∧ cParts st2 i = cParts st i ∧ cTies st2 i = cTies st i ∧ cm st2 i = cm st i := by
  have hK : ∀ p, p < 6 → fK st2 i p = fK st i p := fun p hp => e (19 + p) (by omega)
  have hL : ∀ p, p < 6 → fL st2 i p = fL st i p := fun p hp => e (25 + p) (by omega)
  have em : cm st2 i = cm st i := cmOf (e 1 (by decide))
  refine ⟨tld_congr hK hL 6, ?_, ?_, em⟩
  · show sumN (fP st2 i) (cm st2 i) = sumN (fP st i) (cm st i)
    rw [em]
    exact sumN_congr (fun k hk => e (3 + k) (by omega))
  · show sumN (fK st2 i) 6 + sumN (fL st2 i) 6 = sumN (fK st i) 6 + sumN (fL st i) 6
    rw [sumN_congr (m := 6) hK, sumN_congr (m := 6) hL]
theorem upd_lo {x : Nat} {v : Int32} (hx : x < 6) (k y : Nat) : upd st x v (6 + 31 * k + y) = st (6 + 31 * k + y) := if_neg (by omega)
theorem u4_told (h : stOK st) (hi : i < 7) (v : Int32) : cTold (upd st 4 v) i = cTold st i := (cf_same (fun x _ => upd_lo (by decide) i x) (h.m16 hi)).1
theorem u4_ties (h : stOK st) (hi : i < 7) (v : Int32) : cTies (upd st 4 v) i = cTies st i := (cf_same (fun x _ => upd_lo (by decide) i x) (h.m16 hi)).2.2.1
theorem u4_lack (h : stOK st) (hi : i < 7) (v : Int32) : cLack (upd st 4 v) i = cLack st i := by
  obtain ⟨h1, h2, -⟩ := cf_same (st2 := upd st 4 v) (fun x _ => upd_lo (by decide) i x) (h.m16 hi)
  unfold cLack
  rw [h1, h2]
/-! a number tied as a part -/
theorem tieF_4 : tieF st i num 4 = st 4 := (tieF_c (by decide)).trans (knitF_c (by decide) (by decide) (by decide))
theorem tieF_2 : tieF st i num 2 = st 2 := (tieF_c (by decide)).trans (knitF_c (by decide) (by decide) (by decide))
theorem tieF_3 : tieF st i num 3 = st 3 := (tieF_c (by decide)).trans (knitF_c (by decide) (by decide) (by decide))
theorem tieF_0 : tieF st i num 0 = st 0 + sumN (mK (fK st i) (fL st i) num) 6 := (tieF_c (by decide)).trans knitF_0
theorem tieF_1 : tieF st i num 1 = st 1 + sumN (mL (fK st i) (fL st i) num) 6 := (tieF_c (by decide)).trans knitF_1
theorem tieF_q (hm : cm st i < 16) (k : Nat) {x : Nat} (hx : x = 0 ∨ x = 2) : tieF st i num (6 + 31 * k + x) = st (6 + 31 * k + x) := by
  by_cases e : k = i
  · subst e
    rw [tieF_h (by omega) (by omega) hm]
    exact knitF_h (by omega)
  · exact tieF_o e (by omega) hm
theorem tieF_told (h : stOK st) (hi : i < 7) (c : cRop st i num = 0) (h1 : 1 ≤ num.toInt) (h9 : num.toInt ≤ 999999) : mL (fK st i) (fL st i) num 5 = 0 ∧ cTold (tieF st i num) i = cTold st i + num := by
  have hm := rop_lt c
  have hs := rop_1 hm (num := num) (by rw [c]; decide)
  obtain ⟨q1, q2⟩ := tie_all (h.2.2 i hi).1 (by omega) h9 h.2.1.2 (cRef_z (cRef_of c)) hs
  exact ⟨q1, (tld_congr (fun p hp => tieF_K hm hp) (fun p hp => tieF_L hm hp) 6).trans q2⟩
theorem tieF_ties (hm : cm st i < 16) : cTies (tieF st i num) i = cTies st i + (sumN (mK (fK st i) (fL st i) num) 6 + sumN (mL (fK st i) (fL st i) num) 6) := by
  show sumN (fK (tieF st i num) i) 6 + sumN (fL (tieF st i num) i) 6 = sumN (fK st i) 6 + sumN (fL st i) 6 + _
  rw [sumN_congr (m := 6) (fun p hp => tieF_K hm hp), sumN_congr (m := 6) (fun p hp => tieF_L hm hp), sumN_tK, sumN_tL]
  have h2 : ∀ a b c d : Int32, a + b + (c + d) = a + c + (b + d) := by intro a b c d; grind
  exact h2 _ _ _ _
theorem tieF_oth (h : stOK st) (hm : cm st i < 16) (hj : j < 7) (hij : j ≠ i) : cTold (tieF st i num) j = cTold st j ∧ cTies (tieF st i num) j = cTies st j := by
  obtain ⟨h1, -, h3, -⟩ := cf_same (st2 := tieF st i num) (i := j) (fun x hx => tieF_o hij hx hm) (h.m16 hj)
  exact ⟨h1, h3⟩
theorem tie_more (h : stOK st) (hi : i < 7) (h0 : 0 ≤ num.toInt) (h9 : num.toInt ≤ 999999) : ¬ sumN (mL (fK st i) (fL st i) num) 6 < 0 := by
  have hs := sumN_b (f := mL (fK st i) (fL st i) num) (B := 1) 6 (fun p hp => by
    obtain ⟨a1, a2, a3, a4, a5, a6, a7⟩ := lay_i (num := num) (h.2.2 i hi).1 h0 h9 hp
    omega) (by decide)
  rw [Int32.lt_iff_toInt_lt, z_toI]
  omega
theorem tieF_part (hm : cm st i < 16) : partF (tieF st i num) i (nI (cm st i)) = num := by
  rw [partF_at (by rw [tieF_cm hm]; omega) (by rw [tieF_cm hm]; omega)]
  exact (tieF_p hm hm).trans (upd_at _ _ _)
theorem tieF_part2 (hm : cm st i < 16) : partF (tieF st i num) i (nI (cm st i + 1)) = -1 := partF_no (by rw [tieF_cm hm]; omega) (by omega)
/-! what stays true -/
theorem pI.pc (h : pI t st) : pcOK st := h.1.1
theorem pI.mono (h : pI t st) : pI (t + 1) st := ⟨h.1, h.2.1, h.2.2.1, fun k hk => by have := h.2.2.2 k hk; omega⟩
theorem pI.tie {a b : Int32} (h : pI t st) (hi : i < 7) (hs : stOK st2) (e0 : st2 0 = st 0 + a) (e1 : st2 1 = st 1 + b) (e2 : st2 2 = st 2) (e3 : st2 3 = st 3) (eT : cTies st2 i = cTies st i + (a + b)) (eo : ∀ k, k < 7 → k ≠ i → cTies st2 k = cTies st k) (eh : ∀ k, k < 7 → st2 (6 + 31 * k + 0) = st (6 + 31 * k + 0)) (es : ∀ k, k < 7 → st2 (6 + 31 * k + 2) = st (6 + 31 * k + 2)) : pI t st2 := by
  refine ⟨hs, fun k hk => by rw [eh k hk]; exact h.2.1 k hk, ?_, fun k hk => by rw [es k hk]; exact h.2.2.2 k hk⟩
  have hc : st 0 + st 1 = sumN (cTies st) 7 + st 2 + st 3 := h.2.2.1
  show st2 0 + st2 1 = sumN (cTies st2) 7 + st2 2 + st2 3
  rw [e0, e1, e2, e3, sumN_one eT 7 hi eo]
  have h2 : ∀ x y S u v a b : Int32, x + y = S + u + v → x + a + (y + b) = S + (a + b) + u + v := by intro x y S u v a b q; grind
  exact h2 _ _ _ _ _ _ _ hc
theorem pI.tf (h : pI t st) (hi : i < 7) (c : cRop st i num = 0) (h1 : 1 ≤ num.toInt) (h9 : num.toInt ≤ 999999) : pI t (tieF st i num) := by
  have hm := rop_lt c
  exact h.tie hi (h.1.tf hi c h1 h9) tieF_0 tieF_1 tieF_2 tieF_3 (tieF_ties hm) (fun k hk hn => (tieF_oth h.1 hm hk hn).2) (fun k _ => tieF_q hm k (Or.inl rfl)) (fun k _ => tieF_q hm k (Or.inr rfl))
theorem pI.lo {x : Nat} {v : Int32} (h : pI t st) (hx : 4 ≤ x) (hx6 : x < 6) (hs : stOK (upd st x v)) : pI t (upd st x v) := by
  refine ⟨hs, fun k hk => by rw [upd_lo hx6 k 0]; exact h.2.1 k hk, ?_, fun k hk => by rw [upd_lo hx6 k 2]; exact h.2.2.2 k hk⟩
  have hc : st 0 + st 1 = sumN (cTies st) 7 + st 2 + st 3 := h.2.2.1
  have e : ∀ y, y < 4 → upd st x v y = st y := fun y hy => if_neg (by omega)
  show upd st x v 0 + upd st x v 1 = sumN (cTies (upd st x v)) 7 + upd st x v 2 + upd st x v 3
  rw [e 0 (by decide), e 1 (by decide), e 2 (by decide), e 3 (by decide), sumN_congr (m := 7) (fun k hk => (cf_same (st2 := upd st x v) (i := k) (fun y _ => upd_lo hx6 k y) (h.1.m16 hk)).2.2.1)]
  exact hc
theorem pI.u4 (h : pI t st) (v : Int32) : pI t (upd st 4 v) := h.lo (Nat.le_refl _) (by decide) (h.1.u4 v)
theorem pI.ts (h : pI t st) (hi : i < 7) (h1 : 1 ≤ num.toInt) (h9 : num.toInt ≤ 999999) : pI t (tieS st i num) := by
  unfold tieS
  split
  · exact h.tf hi ‹_› h1 h9
  · exact h.u4 _
theorem pI.as (h : pI t st) (hi : i < 7) (hj : j < 7) : pI t (addS st i j) := by
  unfold addS
  split
  · exact h
  · have := told_1 h.1 hi ‹_›
    exact h.ts hj this.1 this.2
/-! a lack tied -/
theorem knitF_ties : cTies (knitF st i num) i = cTies st i + (sumN (mK (fK st i) (fL st i) num) 6 + sumN (mL (fK st i) (fL st i) num) 6) := by
  show sumN (fK (knitF st i num) i) 6 + sumN (fL (knitF st i num) i) 6 = sumN (fK st i) 6 + sumN (fL st i) 6 + _
  rw [sumN_congr (m := 6) (f := fK (knitF st i num) i) (fun p hp => knitF_K hp), sumN_congr (m := 6) (f := fL (knitF st i num) i) (fun p hp => knitF_L hp), sumN_tK, sumN_tL]
  have h2 : ∀ a b c d : Int32, a + b + (c + d) = a + c + (b + d) := by intro a b c d; grind
  exact h2 _ _ _ _
theorem lack_0 (h : stOK st) (hi : i < 7) : 0 ≤ (cLack st i).toInt ∧ (cLack st i).toInt ≤ 15999984 ∧ 0 ≤ (cTold st i).toInt := by
  have h1 := parts_i (h.2.2 i hi) (h.1 i hi).2
  have h2 := told_i (h.2.2 i hi)
  have h3 := (h.1 i hi).2
  have h4 := lack_i h hi
  have h5 := (h.2.2 i hi).2.2
  omega
theorem lack_s (h : stOK st) (hi : i < 7) (c : cRef st i (cLack st i) = 0) : cTold st i + cLack st i ≤ 999999 ∧ (cLack st i).toInt ≤ 999999 := by
  have h6 : cTold st i + cLack st i ≤ 999999 := by
    have c2 : refuse (fK st i) (fL st i) (cLack st i) (st 5) = 0 := c
    unfold refuse at c2
    split at c2
    · assumption
    · exact absurd c2 (by decide)
  refine ⟨h6, ?_⟩
  have h2 := told_i (h.2.2 i hi)
  have h3 := lack_0 h hi
  rw [Int32.le_iff_toInt_le, i_add (by omega) (by omega), i_6n] at h6
  omega
theorem add_back (a b : Int32) : a + (b - a) = b := by grind
theorem sub_self9 (a : Int32) : a - a = 0 := by grind
theorem md_k (h : stOK st) (hi : i < 7) (c : cRef st i (cLack st i) = 0) : cTold (knitF st i (cLack st i)) i = cParts st i ∧ cParts (knitF st i (cLack st i)) i = cParts st i := by
  obtain ⟨s1, s2⟩ := lack_s h hi c
  have s0 := lack_0 h hi
  obtain ⟨q1, q2⟩ := tie_all (num := cLack st i) (h.2.2 i hi).1 s0.1 s2 h.2.1.2 (cRef_z c) s1
  refine ⟨?_, ?_⟩
  · have e : cTold (knitF st i (cLack st i)) i = tld (tK (fK st i) (fL st i) (cLack st i) 6) (tL (fK st i) (fL st i) (cLack st i) 6) 6 := tld_congr (fun p hp => knitF_K hp) (fun p hp => knitF_L hp) 6
    rw [e, q2]
    exact add_back (cTold st i) (cParts st i)
  · have em : cm (knitF st i (cLack st i)) i = cm st i := cmOf (knitF_lo (by decide))
    show sumN (fP (knitF st i (cLack st i)) i) (cm (knitF st i (cLack st i)) i) = sumN (fP st i) (cm st i)
    rw [em]
    exact sumN_congr (fun k hk => knitF_h (by have := h.m16 hi; omega))
theorem md_F (h : stOK st) (hi : i < 7) (c : mendR st i = cLack st i) : cordF (mendS st i) i 3 = 0 ∧ cTold (mendS st i) i = cParts (mendS st i) i := by
  unfold mendR at c
  unfold mendS
  by_cases c0 : cLack st i = 0
  · rw [if_pos c0]
    refine ⟨c0, ?_⟩
    have e : cParts st i - cTold st i = 0 := c0
    have h2 : ∀ a b : Int32, a - b = 0 → b = a := by intro a b q; grind
    exact h2 _ _ e
  · rw [if_neg c0] at c ⊢
    by_cases c1 : cRef st i (cLack st i) = 0
    · rw [if_pos c1]
      obtain ⟨k1, k2⟩ := md_k h hi c1
      refine ⟨?_, k1.trans k2.symm⟩
      show cParts (knitF st i (cLack st i)) i - cTold (knitF st i (cLack st i)) i = 0
      rw [k1, k2]
      exact sub_self9 _
    · exfalso
      rw [if_neg c1] at c
      have s0 := (lack_0 h hi).1
      rw [← c] at s0
      rcases ref_v st i (cLack st i) with e | e | e
      · exact c1 e
      · rw [e] at s0; exact absurd s0 (by decide)
      · rw [e] at s0; exact absurd s0 (by decide)
theorem md_T (c : ¬ mendR st i = cLack st i) : mendS st i = upd st 4 (st 4 + 1) ∧ (mendR st i = -1 ∨ mendR st i = -2) := by
  unfold mendR at c ⊢
  unfold mendS
  by_cases c0 : cLack st i = 0
  · rw [if_pos c0] at c
    exact absurd c0.symm c
  · rw [if_neg c0] at c ⊢
    rw [if_neg c0]
    by_cases c1 : cRef st i (cLack st i) = 0
    · rw [if_pos c1] at c
      exact absurd rfl c
    · rw [if_neg c1, if_neg c1]
      refine ⟨rfl, ?_⟩
      rcases ref_v st i (cLack st i) with e | e | e
      · exact absurd e c1
      · rw [e]; exact Or.inl (by decide)
      · rw [e]; exact Or.inr (by decide)
theorem md_2 : cordF (mendS st i) i 2 = cordF st i 2 := by
  show mendS st i (6 + 31 * i + 1) = st (6 + 31 * i + 1)
  unfold mendS
  split
  · rfl
  · split
    · exact knitF_lo (by decide)
    · exact upd_lo (by decide) i 1
theorem pI.ms (h : pI t st) (hi : i < 7) : pI t (mendS st i) := by
  have hs := h.1.ms hi
  unfold mendS at hs ⊢
  by_cases c0 : cLack st i = 0
  · rw [if_pos c0]; exact h
  · rw [if_neg c0] at hs ⊢
    by_cases c1 : cRef st i (cLack st i) = 0
    · rw [if_pos c1] at hs ⊢
      exact h.tie hi hs knitF_0 knitF_1 (knitF_c (by decide) (by decide) (by decide)) (knitF_c (by decide) (by decide) (by decide)) knitF_ties (fun k hk hn => (cf_same (st2 := knitF st i (cLack st i)) (i := k) (fun x hx => knitF_o hn hx) (h.1.m16 hk)).2.2.1) (fun k _ => knitF_lo (by decide)) (fun k _ => knitF_lo (by decide))
    · rw [if_neg c1] at hs ⊢
      exact h.u4 _
/-! a knot slips -/
theorem slr_T {p : Nat} (c : opn (fK st i) (fL st i) p = 0) : slipR st i p = -1 := if_pos c
theorem slr_F {p : Nat} (c : ¬ opn (fK st i) (fL st i) p = 0) : slipR st i p = opn (fK st i) (fL st i) p - 1 := by
  have h2 : ∀ a b : Int32, a - 1 - b = a - b - 1 := by intro a b; grind
  exact (if_neg c).trans (h2 _ _)
theorem sls_T {p : Nat} (c : opn (fK st i) (fL st i) p = 0) : slipS st i p = upd st 4 (st 4 + 1) := if_pos c
theorem sls_F {p : Nat} (c : ¬ opn (fK st i) (fL st i) p = 0) : slipS st i p = slipF st i p := if_neg c
theorem sl_k {p : Nat} : fK (slipF st i p) i p = fK st i p - 1 := if_pos rfl
theorem sl_o {p k x : Nat} (hk : k ≠ i) (hx : x < 31) (hp : p < 6) : slipF st i p (6 + 31 * k + x) = st (6 + 31 * k + x) := by
  unfold slipF
  rw [if_neg (by omega), if_neg (by omega), if_neg (by omega)]
theorem sl_c {p x : Nat} (hx : x < 6) (h2 : x ≠ 2) : slipF st i p x = st x := by
  unfold slipF
  rw [if_neg (by omega), if_neg (by omega), if_neg h2]
theorem sl_ties {p : Nat} (hp : p < 6) : cTies (slipF st i p) i = cTies st i + -1 := by
  have e : fK (slipF st i p) i p = fK st i p + -1 := by
    rw [sl_k]
    exact Int32.sub_eq_add_neg _ _
  show sumN (fK (slipF st i p) i) 6 + sumN (fL (slipF st i p) i) 6 = sumN (fK st i) 6 + sumN (fL st i) 6 + -1
  rw [sumN_one e 6 hp (fun k hk hn => slipF_j (by omega) (by omega)), sumN_congr (m := 6) (f := fL (slipF st i p) i) (fun k hk => slipF_j (by omega) (by omega))]
  have h2 : ∀ a b : Int32, a + -1 + b = a + b + -1 := by intro a b; grind
  exact h2 _ _
theorem pI.ss (h : pI t st) (ht : t ≤ 1000) (hi : i < 7) {p : Nat} (hp : p < 6) : pI (t + 1) (slipS st i p) := by
  have hs := h.1.ss hi hp
  by_cases c : opn (fK st i) (fL st i) p = 0
  · rw [sls_T c]
    exact (h.u4 _).mono
  · rw [sls_F c] at hs ⊢
    refine ⟨hs, fun k hk => ?_, ?_, fun k hk => ?_⟩
    · have e : slipF st i p (6 + 31 * k + 0) = st (6 + 31 * k + 0) := by
        by_cases q : k = i
        · subst q; exact slipF_j (by decide) (by omega)
        · exact sl_o q (by decide) hp
      rw [e]
      exact h.2.1 k hk
    · have hc : st 0 + st 1 = sumN (cTies st) 7 + st 2 + st 3 := h.2.2.1
      have e2 : slipF st i p 2 = st 2 + 1 := by
        unfold slipF
        rw [if_neg (by omega), if_neg (by omega), if_pos rfl]
      show slipF st i p 0 + slipF st i p 1 = sumN (cTies (slipF st i p)) 7 + slipF st i p 2 + slipF st i p 3
      rw [sl_c (by decide) (by decide), sl_c (by decide) (by decide), sl_c (x := 3) (by decide) (by decide), e2, sumN_one (sl_ties hp) 7 hi (fun k hk hn => (cf_same (st2 := slipF st i p) (i := k) (fun x hx => sl_o hn hx hp) (h.1.m16 hk)).2.2.1)]
      have h2 : ∀ x y S u v : Int32, x + y = S + u + v → x + y = S + -1 + (u + 1) + v := by intro x y S u v q; grind
      exact h2 _ _ _ _ _ hc
    · have h0 := h.2.2.2 k hk
      by_cases q : k = i
      · subst q
        have e : slipF st k p (6 + 31 * k + 2) = st (6 + 31 * k + 2) + 1 := by
          unfold slipF
          rw [if_neg (by omega), if_pos rfl]
        rw [e, i_add (by rw [i_1]; omega) (by rw [i_1]; omega), i_1]
        omega
      · rw [sl_o q (by decide) hp]
        omega
/-! a new cord, a hue, the room -/
theorem rn_z {y : Nat} (h1 : 19 ≤ y) (h2 : y < 31) : renF st i (6 + 31 * i + y) = 0 := by
  unfold renF
  rw [if_neg (by omega), if_neg (by omega), if_pos (by omega)]
theorem rn_12 {y : Nat} (h : y = 1 ∨ y = 2) : renF st i (6 + 31 * i + y) = 0 := by
  unfold renF
  rw [if_neg (by omega), if_pos (by omega)]
theorem rn_h (k : Nat) : renF st i (6 + 31 * k + 0) = st (6 + 31 * k + 0) := by
  unfold renF
  rw [if_neg (by omega), if_neg (by omega), if_neg (by omega)]
theorem rn_o {k x : Nat} (hk : k ≠ i) (hx : x < 31) : renF st i (6 + 31 * k + x) = st (6 + 31 * k + x) := by
  unfold renF
  rw [if_neg (by omega), if_neg (by omega), if_neg (by omega)]
theorem rn_c {x : Nat} (hx : x < 6) (h3 : x ≠ 3) : renF st i x = st x := by
  unfold renF
  rw [if_neg h3, if_neg (by omega), if_neg (by omega)]
theorem rn_3 : renF st i 3 = st 3 + cTies st i := if_pos rfl
theorem rn_told : cTold (renF st i) i = 0 := (tld_congr (kn' := fun _ => 0) (lo' := fun _ => 0) (fun p hp => rn_z (y := 19 + p) (by omega) (by omega)) (fun p hp => rn_z (y := 25 + p) (by omega) (by omega)) 6).trans (by decide)
theorem rn_ties : cTies (renF st i) i = 0 := by
  show sumN (fK (renF st i) i) 6 + sumN (fL (renF st i) i) 6 = 0
  rw [sumN_congr (m := 6) (f := fK (renF st i) i) (f' := fun _ => 0) (fun p hp => rn_z (y := 19 + p) (by omega) (by omega)), sumN_congr (m := 6) (f := fL (renF st i) i) (f' := fun _ => 0) (fun p hp => rn_z (y := 25 + p) (by omega) (by omega)), sumN_z]
  rfl
theorem pI.rn (h : pI t st) (hi : i < 7) : pI t (renF st i) := by
  refine ⟨h.1.rn hi, fun k hk => by rw [rn_h k]; exact h.2.1 k hk, ?_, fun k hk => ?_⟩
  · have hc : st 0 + st 1 = sumN (cTies st) 7 + st 2 + st 3 := h.2.2.1
    have e : cTies (renF st i) i = cTies st i + - cTies st i := by
      rw [rn_ties]
      have h2 : ∀ a : Int32, 0 = a + -a := by intro a; grind
      exact h2 _
    show renF st i 0 + renF st i 1 = sumN (cTies (renF st i)) 7 + renF st i 2 + renF st i 3
    rw [rn_c (by decide) (by decide), rn_c (by decide) (by decide), rn_c (x := 2) (by decide) (by decide), rn_3, sumN_one e 7 hi (fun k hk hn => (cf_same (st2 := renF st i) (i := k) (fun x hx => rn_o hn hx) (h.1.m16 hk)).2.2.1)]
    have h2 : ∀ x y S u v a : Int32, x + y = S + u + v → x + y = S + -a + u + (v + a) := by intro x y S u v a q; grind
    exact h2 _ _ _ _ _ _ hc
  · by_cases q : k = i
    · subst q
      rw [rn_12 (Or.inr rfl), z_toI]
      omega
    · rw [rn_o q (by decide)]
      exact h.2.2.2 k hk
theorem pI.hue (h : pI t st) (hi : i < 7) {z : Nat} (hz : z < 6) : pI t (upd st (6 + 31 * i + 0) (nI z)) := by
  have o : ∀ k y, ¬ (k = i ∧ y = 0) → y < 31 → upd st (6 + 31 * i + 0) (nI z) (6 + 31 * k + y) = st (6 + 31 * k + y) := fun k y hn hy => if_neg (by omega)
  have c : ∀ y, y < 6 → upd st (6 + 31 * i + 0) (nI z) y = st y := fun y hy => if_neg (by omega)
  refine ⟨h.1.hue hi _, fun k hk => ?_, ?_, fun k hk => by rw [o k 2 (by omega) (by decide)]; exact h.2.2.2 k hk⟩
  · by_cases q : k = i
    · subst q
      exact ⟨z, hz, if_pos rfl⟩
    · rw [o k 0 (by omega) (by decide)]
      exact h.2.1 k hk
  · have hc : st 0 + st 1 = sumN (cTies st) 7 + st 2 + st 3 := h.2.2.1
    have e : ∀ k, k < 7 → cTies (upd st (6 + 31 * i + 0) (nI z)) k = cTies st k := fun k hk => by
      show sumN _ 6 + sumN _ 6 = sumN _ 6 + sumN _ 6
      rw [sumN_congr (m := 6) (f := fK (upd st (6 + 31 * i + 0) (nI z)) k) (f' := fK st k) (fun p hp => o k (19 + p) (by omega) (by omega)), sumN_congr (m := 6) (f := fL (upd st (6 + 31 * i + 0) (nI z)) k) (f' := fL st k) (fun p hp => o k (25 + p) (by omega) (by omega))]
    show upd st (6 + 31 * i + 0) (nI z) 0 + upd st (6 + 31 * i + 0) (nI z) 1 = sumN (cTies (upd st (6 + 31 * i + 0) (nI z))) 7 + upd st (6 + 31 * i + 0) (nI z) 2 + upd st (6 + 31 * i + 0) (nI z) 3
    rw [c 0 (by decide), c 1 (by decide), c 2 (by decide), c 3 (by decide), sumN_congr (m := 7) e]
    exact hc
theorem room_rng {k : Nat} (hk : k < 40) : 20 + nI k = nI (20 + k) ∧ ¬ nI (20 + k) < 20 ∧ nI (20 + k) ≤ 99 ∧ 20 ≤ (nI (20 + k)).toInt ∧ (nI (20 + k)).toInt ≤ 99 := by
  have e := nI_toInt (n := 20 + k) (by omega)
  refine ⟨by rw [show (20 : Int32) = nI 20 from rfl, nI_add], fun q => ?_, (nI_leI (a := 20 + k) (b := 99) (by omega) (by decide)).mpr (by omega), by omega, by omega⟩
  have := (nI_ltI (a := 20 + k) (b := 20) (by omega) (by decide)).mp q
  omega
theorem pI.room (h : pI t st) {v : Int32} (h1 : 20 ≤ v.toInt) (h2 : v.toInt ≤ 99) : pI t (upd st 5 v) := h.lo (by decide) (by decide) (h.1.room h1 h2)
theorem pI_0 : pI 0 st0 := by
  refine ⟨stOK_0, fun i hi => ⟨0, by decide, if_neg (by omega)⟩, ?_, fun i hi => ?_⟩
  · have e : ∀ k, k < 7 → cTies st0 k = 0 := fun k hk => by
      show sumN (fK st0 k) 6 + sumN (fL st0 k) 6 = 0
      rw [sumN_congr (m := 6) (f := fK st0 k) (f' := fun _ => 0) (fun p hp => if_neg (by omega)), sumN_congr (m := 6) (f := fL st0 k) (f' := fun _ => 0) (fun p hp => if_neg (by omega)), sumN_z]
      rfl
    show st0 0 + st0 1 = sumN (cTies st0) 7 + st0 2 + st0 3
    rw [sumN_congr (m := 7) (f' := fun _ => 0) e, sumN_z]
    decide
  · have e : st0 (6 + 31 * i + 2) = 0 := if_neg (by omega)
    rw [e, z_toI]
    omega
/-! a cord added -/
theorem ad_0 (c : cTold st i = 0) : addS st i j = st ∧ addR st i j = 0 := ⟨if_pos c, if_pos c⟩
theorem ad_n (c : ¬ cTold st i = 0) (r : cRop st j (cTold st i) = 0) : addS st i j = tieF st j (cTold st i) ∧ addR st i j = 10 + sumN (mL (fK st j) (fL st j) (cTold st i)) 6 := ⟨(if_neg c).trans (if_pos r), (if_neg c).trans (if_pos r)⟩
theorem ad_r (c : ¬ cTold st i = 0) (r : ¬ cRop st j (cTold st i) = 0) : addS st i j = upd st 4 (st 4 + 1) ∧ addR st i j = cRop st j (cTold st i) := ⟨(if_neg c).trans (if_neg r), (if_neg c).trans (if_neg r)⟩
theorem ad_l (a S : Int32) : 10 + S = 10 + (a + S) - a := by grind
theorem num_b {n : Int32} (h1 : 1 ≤ n.toInt) (h9 : n.toInt ≤ 999999) : ¬ n < 1 ∧ n ≤ 999999 := by
  rw [Int32.lt_iff_toInt_lt, Int32.le_iff_toInt_le, i_1, i_6n]
  omega
end
