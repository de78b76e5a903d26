/-! ===== the reference: its row of numbers ===== -/
theorem zAt (i j : Nat) : 6 + 31 * nI i + nI j = nI (6 + 31 * i + j) := by
  show Int32.ofNat 6 + Int32.ofNat 31 * Int32.ofNat i + Int32.ofNat j = Int32.ofNat (6 + 31 * i + j)
  rw [Int32.ofNat_add, Int32.ofNat_add, Int32.ofNat_mul]
theorem znar {c : Prop} [Decidable c] : narrow .boolean (.int (if c then 1 else 0)) = .int (if c then 1 else 0) := by split <;> rfl
theorem upd_at (f : Nat → Int32) (j : Nat) (v : Int32) : upd f j v j = v := if_pos rfl
def cpF (s t : Nat → Int32) (k : Nat) : Nat → Int32 := fun q => if q < k then s q else t q
theorem cpF_0 (s t : Nat → Int32) : cpF s t 0 = t := by funext q; exact if_neg (Nat.not_lt_zero _)
theorem cpF_up (s t : Nat → Int32) (k : Nat) : upd (cpF s t k) k (s k) = cpF s t (k + 1) := by
  funext q
  simp only [upd, cpF]
  by_cases h : q = k
  · subst h; simp
  · have h1 : (q < k + 1) = (q < k) := propext ⟨fun z => by omega, fun z => by omega⟩
    simp [h, h1]
abbrev layK (st : Nat → Int32) (i : Nat) (num : Int32) (kn : Nat → Int32) (k : Nat) : Nat → Int32 := cpF (mK (fK st i) (fL st i) num) kn k
abbrev layL (st : Nat → Int32) (i : Nat) (num : Int32) (lo : Nat → Int32) (k : Nat) : Nat → Int32 := cpF (mL (fK st i) (fL st i) num) lo k
def layA (st : Nat → Int32) (i : Nat) (num : Int32) (kn : Nat → Int32) : Nat → Int32 := if cTold st i + num ≤ 999999 then layK st i num kn 6 else kn
def layB (st : Nat → Int32) (i : Nat) (num : Int32) (lo : Nat → Int32) : Nat → Int32 := if cTold st i + num ≤ 999999 then layL st i num lo 6 else lo
/-- the first k places of what is laid out are on the cord -/
def knG (st : Nat → Int32) (i : Nat) (kn lo : Nat → Int32) (k : Nat) : Nat → Int32 := fun x =>
  if x = 0 then st 0 + sumN kn k
  else if 6 + 31 * i + 19 ≤ x ∧ x < 6 + 31 * i + 19 + k then st x + kn (x - (6 + 31 * i + 19))
  else if 6 + 31 * i + 25 ≤ x ∧ x < 6 + 31 * i + 25 + k then st x + lo (x - (6 + 31 * i + 25))
  else st x
theorem knG_0 (st : Nat → Int32) (i : Nat) (kn lo : Nat → Int32) : knG st i kn lo 0 = st := by
  funext x
  unfold knG
  rw [if_neg (c := 6 + 31 * i + 19 ≤ x ∧ x < 6 + 31 * i + 19 + 0) (by omega), if_neg (c := 6 + 31 * i + 25 ≤ x ∧ x < 6 + 31 * i + 25 + 0) (by omega)]
  split
  · rename_i h; rw [h]; exact Int32.add_zero _
  · rfl
theorem knG_a (st : Nat → Int32) (i : Nat) (kn lo : Nat → Int32) {k : Nat} (hk : k < 6) : knG st i kn lo k (6 + 31 * i + (19 + k)) = st (6 + 31 * i + (19 + k)) := by
  unfold knG
  rw [if_neg (by omega), if_neg (by omega), if_neg (by omega)]
theorem knG_b (st : Nat → Int32) (i : Nat) (kn lo : Nat → Int32) {k : Nat} (hk : k < 6) : knG st i kn lo k (6 + 31 * i + (25 + k)) = st (6 + 31 * i + (25 + k)) := by
  unfold knG
  rw [if_neg (by omega), if_neg (by omega), if_neg (by omega)]
theorem knG_up (st : Nat → Int32) (i : Nat) (kn lo : Nat → Int32) {k : Nat} (hk : k < 6) :
    upd (upd (upd (knG st i kn lo k) (6 + 31 * i + (19 + k)) (knG st i kn lo k (6 + 31 * i + (19 + k)) + kn k)) (6 + 31 * i + (25 + k)) (upd (knG st i kn lo k) (6 + 31 * i + (19 + k)) (knG st i kn lo k (6 + 31 * i + (19 + k)) + kn k) (6 + 31 * i + (25 + k)) + lo k)) 0 (upd (upd (knG st i kn lo k) (6 + 31 * i + (19 + k)) (knG st i kn lo k (6 + 31 * i + (19 + k)) + kn k)) (6 + 31 * i + (25 + k)) (upd (knG st i kn lo k) (6 + 31 * i + (19 + k)) (knG st i kn lo k (6 + 31 * i + (19 + k)) + kn k) (6 + 31 * i + (25 + k)) + lo k) 0 + kn k) = knG st i kn lo (k + 1) := by
  have e1 : upd (knG st i kn lo k) (6 + 31 * i + (19 + k)) (knG st i kn lo k (6 + 31 * i + (19 + k)) + kn k) (6 + 31 * i + (25 + k)) = st (6 + 31 * i + (25 + k)) := by
    unfold upd; rw [if_neg (by omega)]; exact knG_b st i kn lo hk
  rw [e1, knG_a st i kn lo hk]
  funext x
  by_cases h0 : x = 0
  · subst h0
    rw [upd_at]
    have e2 : upd (upd (knG st i kn lo k) (6 + 31 * i + (19 + k)) (st (6 + 31 * i + (19 + k)) + kn k)) (6 + 31 * i + (25 + k)) (st (6 + 31 * i + (25 + k)) + lo k) 0 = st 0 + sumN kn k := by
      unfold upd; rw [if_neg (by omega), if_neg (by omega)]; rfl
    rw [e2]
    show _ = st 0 + (sumN kn k + kn k)
    exact Int32.add_assoc _ _ _
  · unfold upd
    rw [if_neg h0]
    by_cases hb : x = 6 + 31 * i + (25 + k)
    · rw [if_pos hb]
      unfold knG
      rw [if_neg h0, if_neg (by omega), if_pos (by omega), hb, show 6 + 31 * i + (25 + k) - (6 + 31 * i + 25) = k by omega]
    · rw [if_neg hb]
      by_cases ha : x = 6 + 31 * i + (19 + k)
      · rw [if_pos ha]
        unfold knG
        rw [if_neg h0, if_pos (by omega), ha, show 6 + 31 * i + (19 + k) - (6 + 31 * i + 19) = k by omega]
      · rw [if_neg ha]
        unfold knG
        have p1 : (6 + 31 * i + 19 ≤ x ∧ x < 6 + 31 * i + 19 + (k + 1)) = (6 + 31 * i + 19 ≤ x ∧ x < 6 + 31 * i + 19 + k) := propext ⟨fun z => ⟨z.1, by omega⟩, fun z => ⟨z.1, by omega⟩⟩
        have p2 : (6 + 31 * i + 25 ≤ x ∧ x < 6 + 31 * i + 25 + (k + 1)) = (6 + 31 * i + 25 ≤ x ∧ x < 6 + 31 * i + 25 + k) := propext ⟨fun z => ⟨z.1, by omega⟩, fun z => ⟨z.1, by omega⟩⟩
        rw [if_neg h0, if_neg h0]
        simp only [p1, p2]
def knS (st : Nat → Int32) (i : Nat) (kn lo : Nat → Int32) : Nat → Int32 := upd (knG st i kn lo 6) 1 (st 1 + sumN lo 6)
theorem knG_1 (st : Nat → Int32) (i : Nat) (kn lo : Nat → Int32) (k : Nat) (hk : k ≤ 6) : knG st i kn lo k 1 = st 1 := by
  unfold knG
  rw [if_neg (by decide), if_neg (by omega), if_neg (by omega)]
def tie12 (st : Nat → Int32) (i : Nat) : Nat → Int32 := fun q => st (6 + 31 * i + (19 + q))
theorem tie12_eq (st : Nat → Int32) (i : Nat) : sumN (tie12 st i) 12 = cTies st i := by
  have e : ∀ q, st (6 + 31 * i + (19 + (6 + q))) = fL st i q := fun q => by show _ = st (6 + 31 * i + (25 + q)); rw [show 19 + (6 + q) = 25 + q by omega]
  show ((((((sumN (fK st i) 6 + st (6 + 31 * i + (19 + (6 + 0)))) + st (6 + 31 * i + (19 + (6 + 1)))) + st (6 + 31 * i + (19 + (6 + 2)))) + st (6 + 31 * i + (19 + (6 + 3)))) + st (6 + 31 * i + (19 + (6 + 4)))) + st (6 + 31 * i + (19 + (6 + 5)))) = sumN (fK st i) 6 + ((((((0 + fL st i 0) + fL st i 1) + fL st i 2) + fL st i 3) + fL st i 4) + fL st i 5)
  rw [e 0, e 1, e 2, e 3, e 4, e 5, Int32.zero_add]
  simp only [Int32.add_assoc]
