/-! ===== the reference: changes ===== -/
theorem zc1 {i : Nat} (h : i < 7) : (if 0 ≤ nI i ∧ nI i ≤ 6 then (1 : Int32) else 0) = 1 := if_pos ⟨Int32.not_lt.mp (nI_pos (by omega)), (nI_leI (b := 6) (by omega) (by decide)).mpr (by omega)⟩
theorem zc1' {i m : Nat} (h : i ≤ m) (hm : m < 2 ^ 31) : (if 0 ≤ nI i ∧ nI i ≤ nI m then (1 : Int32) else 0) = 1 := if_pos ⟨Int32.not_lt.mp (nI_pos (by omega)), (nI_leI (by omega) hm).mpr h⟩
theorem zin0 {x a b b1 : Int32} (h : x < a ∨ b1 ≤ x) (hb : b1.toInt = b.toInt + 1) : (if a ≤ x ∧ x ≤ b then (1 : Int32) else 0) = 0 := if_neg (fun q => h.elim (fun h => absurd h (Int32.not_lt.mpr q.1)) (fun h => by
  have h2 := q.2
  rw [Int32.le_iff_toInt_le] at h h2
  omega))
theorem zin1 {x a b : Int32} (h : x < a ∨ b < x) : (if a ≤ x ∧ x ≤ b then (1 : Int32) else 0) = 0 := if_neg (fun q => h.elim (fun h => absurd h (Int32.not_lt.mpr q.1)) (fun h => absurd h (Int32.not_lt.mpr q.2)))
theorem rsn_02 (kn lo : Nat → Int32) (num room : Int32) : ∀ p, rsn kn lo num room p = 0 ∨ rsn kn lo num room p = 2
  | 0 => Or.inl rfl
  | p + 1 => by
    show (if _ then _ else _) = _ ∨ (if _ then _ else _) = _
    split
    · exact Or.inr rfl
    · exact rsn_02 kn lo num room p
theorem ref_le {kn lo : Nat → Int32} {num room : Int32} (h : refuse kn lo num room ≤ 0) : refuse kn lo num room = 0 ∧ tld kn lo 6 + num ≤ 999999 := by
  unfold refuse at h ⊢
  split
  · rename_i q
    rw [if_pos q] at h
    rcases rsn_02 kn lo num room 6 with e | e
    · exact ⟨e, q⟩
    · rw [e] at h; exact absurd h (by decide)
  · rename_i q
    rw [if_neg q] at h; exact absurd h (by decide)
theorem rop_le {kn lo : Nat → Int32} {m : Nat} {num room : Int32} (h : rop kn lo m num room ≤ 0) : rop kn lo m num room = 0 ∧ m < 16 ∧ tld kn lo 6 + num ≤ 999999 := by
  unfold rop at h ⊢
  split
  · rename_i q
    rw [if_pos q] at h
    exact ⟨(ref_le h).1, q, (ref_le h).2⟩
  · rename_i q
    rw [if_neg q] at h; exact absurd h (by decide)
theorem sumN_cpF (s t : Nat → Int32) : sumN (cpF s t 6) 6 = sumN s 6 := sumN_congr (fun k hk => if_pos hk)
theorem knS_at (st : Nat → Int32) (i : Nat) (kn lo : Nat → Int32) (x : Nat) : knS st i kn lo x = if x = 1 then st 1 + sumN lo 6 else if x = 0 then st 0 + sumN kn 6 else if 6 + 31 * i + 19 ≤ x ∧ x < 6 + 31 * i + 19 + 6 then st x + kn (x - (6 + 31 * i + 19)) else if 6 + 31 * i + 25 ≤ x ∧ x < 6 + 31 * i + 25 + 6 then st x + lo (x - (6 + 31 * i + 25)) else st x := rfl
theorem knitF_at (st : Nat → Int32) (i : Nat) (num : Int32) (x : Nat) : knitF st i num x = if x = 0 then st 0 + sumN (mK (fK st i) (fL st i) num) 6 else if x = 1 then st 1 + sumN (mL (fK st i) (fL st i) num) 6 else if 6 + 31 * i + 19 ≤ x ∧ x < 6 + 31 * i + 25 then st x + mK (fK st i) (fL st i) num (x - (6 + 31 * i + 19)) else if 6 + 31 * i + 25 ≤ x ∧ x < 6 + 31 * i + 31 then st x + mL (fK st i) (fL st i) num (x - (6 + 31 * i + 25)) else st x := rfl
theorem tieF_at (st : Nat → Int32) (i : Nat) (num : Int32) (x : Nat) : tieF st i num x = if x = 6 + 31 * i + 1 then nI (cm st i + 1) else if x = 6 + 31 * i + (3 + cm st i) then num else knitF st i num x := rfl
theorem knit_at {st st2 : Nat → Int32} {i : Nat} {num : Int32} {kn lo : Nat → Int32} {x : Nat} (h : cTold st i + num ≤ 999999) (e : st2 x = st x) (e0 : st2 0 = st 0) (e1 : st2 1 = st 1) : knS st2 i (layA st i num kn) (layB st i num lo) x = knitF st i num x := by
  unfold layA layB
  rw [if_pos h, if_pos h, knS_at, knitF_at, sumN_cpF, sumN_cpF, e, e0, e1]
  by_cases h0 : x = 0
  · rw [if_pos h0, if_pos h0, if_neg (by omega)]
  · rw [if_neg h0, if_neg h0]
    by_cases h1 : x = 1
    · rw [if_pos h1, if_pos h1]
    · rw [if_neg h1, if_neg h1]
      by_cases h2 : 6 + 31 * i + 19 ≤ x ∧ x < 6 + 31 * i + 25
      · rw [if_pos (by omega), if_pos h2]
        exact congrArg (fun z => st x + z) (if_pos (by omega))
      · rw [if_neg (by omega), if_neg h2]
        by_cases h3 : 6 + 31 * i + 25 ≤ x ∧ x < 6 + 31 * i + 31
        · rw [if_pos (by omega), if_pos h3]
          exact congrArg (fun z => st x + z) (if_pos (by omega))
        · rw [if_neg (by omega), if_neg h3]
theorem knit_eq {st : Nat → Int32} {i : Nat} {num : Int32} {kn lo : Nat → Int32} (h : cTold st i + num ≤ 999999) : knS st i (layA st i num kn) (layB st i num lo) = knitF st i num := funext fun x => knit_at h rfl rfl rfl
theorem tie_eq {st : Nat → Int32} {i : Nat} {num : Int32} {kn lo : Nat → Int32} (hpc : pcOK st) (hi : i < 7) (h : cTold st i + num ≤ 999999) (hm : cm st i < 16) :
    knS (upd (upd st (6 + 31 * i + (3 + cm st i)) num) (6 + 31 * i + 1) (upd st (6 + 31 * i + (3 + cm st i)) num (6 + 31 * i + 1) + 1)) i (if cm st i < 16 then layA st i num kn else kn) (if cm st i < 16 then layB st i num lo else lo) = tieF st i num := by
  rw [if_pos hm, if_pos hm]
  have hX : ∀ y, y ≠ 6 + 31 * i + (3 + cm st i) → y ≠ 6 + 31 * i + 1 → upd (upd st (6 + 31 * i + (3 + cm st i)) num) (6 + 31 * i + 1) (upd st (6 + 31 * i + (3 + cm st i)) num (6 + 31 * i + 1) + 1) y = st y := fun y h1 h2 => (if_neg h2).trans (if_neg h1)
  have hXa : upd (upd st (6 + 31 * i + (3 + cm st i)) num) (6 + 31 * i + 1) (upd st (6 + 31 * i + (3 + cm st i)) num (6 + 31 * i + 1) + 1) (6 + 31 * i + (3 + cm st i)) = num := (if_neg (by omega)).trans (if_pos rfl)
  have hXb : upd (upd st (6 + 31 * i + (3 + cm st i)) num) (6 + 31 * i + 1) (upd st (6 + 31 * i + (3 + cm st i)) num (6 + 31 * i + 1) + 1) (6 + 31 * i + 1) = nI (cm st i + 1) := by
    rw [upd_at, show upd st (6 + 31 * i + (3 + cm st i)) num (6 + 31 * i + 1) = st (6 + 31 * i + 1) from if_neg (by omega), (hpc i hi).1, nI_1]
  generalize upd (upd st (6 + 31 * i + (3 + cm st i)) num) (6 + 31 * i + 1) (upd st (6 + 31 * i + (3 + cm st i)) num (6 + 31 * i + 1) + 1) = X at hX hXa hXb ⊢
  funext x
  rw [tieF_at]
  by_cases ha : x = 6 + 31 * i + 1
  · rw [if_pos ha, knS_at, if_neg (by omega), if_neg (by omega), if_neg (by omega), if_neg (by omega), ha, hXb]
  · rw [if_neg ha]
    by_cases hb : x = 6 + 31 * i + (3 + cm st i)
    · rw [if_pos hb, knS_at, if_neg (by omega), if_neg (by omega), if_neg (by omega), if_neg (by omega), hb, hXa]
    · rw [if_neg hb]
      exact knit_at h (hX x hb ha) (hX 0 (by omega) (by omega)) (hX 1 (by omega) (by omega))
theorem slip_eq (st : Nat → Int32) {i j : Nat} (hj : j < 6) :
    upd (upd (upd st (6 + 31 * i + (19 + j)) (st (6 + 31 * i + (19 + j)) - 1)) (6 + 31 * i + 2) (upd st (6 + 31 * i + (19 + j)) (st (6 + 31 * i + (19 + j)) - 1) (6 + 31 * i + 2) + 1)) 2 (upd (upd st (6 + 31 * i + (19 + j)) (st (6 + 31 * i + (19 + j)) - 1)) (6 + 31 * i + 2) (upd st (6 + 31 * i + (19 + j)) (st (6 + 31 * i + (19 + j)) - 1) (6 + 31 * i + 2) + 1) 2 + 1) = slipF st i j := by
  funext x
  simp only [upd, slipF]
  rw [if_neg (c := 6 + 31 * i + 2 = 6 + 31 * i + (19 + j)) (by omega), if_neg (c := 2 = 6 + 31 * i + 2) (by omega), if_neg (c := 2 = 6 + 31 * i + (19 + j)) (by omega)]
  by_cases ha : x = 2
  · rw [if_pos ha, if_neg (by omega), if_neg (by omega), if_pos ha]
  · rw [if_neg ha]
    by_cases hb : x = 6 + 31 * i + 2
    · rw [if_pos hb, if_neg (by omega), if_pos hb, hb]
    · rw [if_neg hb]
      by_cases hc : x = 6 + 31 * i + (19 + j)
      · rw [if_pos hc, if_pos hc, hc]
      · rw [if_neg hc, if_neg hc, if_neg hb, if_neg ha]
theorem slip_o (st : Nat → Int32) {i j : Nat} (hj : j < 6) : opn (fK (slipF st i j) i) (fL (slipF st i j) i) j = fK st i j - 1 - 10 * fL st i j := by
  have e1 : slipF st i j (6 + 31 * i + (19 + j)) = st (6 + 31 * i + (19 + j)) - 1 := if_pos rfl
  have e2 : slipF st i j (6 + 31 * i + (25 + j)) = st (6 + 31 * i + (25 + j)) := by unfold slipF; rw [if_neg (by omega), if_neg (by omega), if_neg (by omega)]
  show slipF st i j (6 + 31 * i + (19 + j)) - 10 * slipF st i j (6 + 31 * i + (25 + j)) = _
  rw [e1, e2]; rfl
def zrF (st : Nat → Int32) (i k : Nat) : Nat → Int32 := fun x => if 6 + 31 * i + 1 ≤ x ∧ x < 6 + 31 * i + 1 + k then 0 else st x
theorem zrF_0 (st : Nat → Int32) (i : Nat) : zrF st i 0 = st := by funext x; exact if_neg (by omega)
theorem zrF_up (st : Nat → Int32) (i k : Nat) : upd (zrF st i k) (6 + 31 * i + (1 + k)) 0 = zrF st i (k + 1) := by
  funext x
  unfold upd zrF
  by_cases h : x = 6 + 31 * i + (1 + k)
  · rw [if_pos h, if_pos (by omega)]
  · rw [if_neg h]
    have p1 : (6 + 31 * i + 1 ≤ x ∧ x < 6 + 31 * i + 1 + (k + 1)) = (6 + 31 * i + 1 ≤ x ∧ x < 6 + 31 * i + 1 + k) := propext ⟨fun z => ⟨z.1, by omega⟩, fun z => ⟨z.1, by omega⟩⟩
    simp only [p1]
def renM (st : Nat → Int32) (i : Nat) : Nat → Int32 := zrF (upd st 3 (st 3 + cTies st i)) i 30
/-! the saved states -/
theorem zMu (m k : Nat) : 223 * nI m + nI k = nI (223 * m + k) := by
  show Int32.ofNat 223 * Int32.ofNat m + Int32.ofNat k = Int32.ofNat (223 * m + k)
  rw [Int32.ofNat_add, Int32.ofNat_mul]
def shF (sv : Nat → Int32) (k : Nat) : Nat → Int32 := fun q => if q < k then sv (223 + q) else sv q
theorem shF_0 (sv : Nat → Int32) : shF sv 0 = sv := by funext q; exact if_neg (Nat.not_lt_zero _)
theorem shF_up (sv : Nat → Int32) (k : Nat) : upd (shF sv k) k (shF sv k (223 + k)) = shF sv (k + 1) := by
  have e : shF sv k (223 + k) = sv (223 + k) := if_neg (by omega)
  rw [e]
  funext q
  simp only [upd, shF]
  by_cases h : q = k
  · subst h; simp
  · have h1 : (q < k + 1) = (q < k) := propext ⟨fun z => by omega, fun z => by omega⟩
    simp [h, h1]
def wrF (sv : Nat → Int32) (m : Nat) (st : Nat → Int32) (k : Nat) : Nat → Int32 := fun q => if 223 * m ≤ q ∧ q < 223 * m + k then st (q - 223 * m) else sv q
theorem wrF_0 (sv : Nat → Int32) (m : Nat) (st : Nat → Int32) : wrF sv m st 0 = sv := by funext q; exact if_neg (by omega)
theorem wrF_up (sv : Nat → Int32) (m : Nat) (st : Nat → Int32) (k : Nat) : upd (wrF sv m st k) (223 * m + k) (st k) = wrF sv m st (k + 1) := by
  funext q
  unfold upd wrF
  by_cases h : q = 223 * m + k
  · rw [if_pos h, if_pos (by omega), show q - 223 * m = k by omega]
  · rw [if_neg h]
    have p1 : (223 * m ≤ q ∧ q < 223 * m + (k + 1)) = (223 * m ≤ q ∧ q < 223 * m + k) := propext ⟨fun z => ⟨z.1, by omega⟩, fun z => ⟨z.1, by omega⟩⟩
    simp only [p1]
def svM (m : Nat) : Nat := if m = 6 then 5 else m
def svB (sv : Nat → Int32) (m : Nat) : Nat → Int32 := if m = 6 then shF sv 1115 else sv
def svS (sv : Nat → Int32) (m : Nat) (st : Nat → Int32) : Nat → Int32 := wrF (svB sv m) (svM m) st 223
theorem svM_le {m : Nat} (h : m ≤ 6) : svM m ≤ 5 := by unfold svM; split <;> omega
def chF (tx : Nat → Int32) (ln p : Nat) : Int32 := if p < ln then tx p else 0
theorem zlt_le {x b b1 : Int32} (h : x < b1) (hb : b1.toInt = b.toInt + 1) : x ≤ b := by
  rw [Int32.lt_iff_toInt_lt] at h
  rw [Int32.le_iff_toInt_le]
  omega
theorem zsub3 (a b c : Int32) : a - b - c = a - (b + c) := by grind
