/-! ===== the numbers behind a cord: its open knots, what it tells, what is laid out for a number ===== -/
def opn (kn lo : Nat → Int32) (p : Nat) : Int32 := kn p - 10 * lo p
def tld (kn lo : Nat → Int32) : Nat → Int32
  | 0 => 0
  | k + 1 => 10 * tld kn lo k + opn kn lo (5 - k)
def sumN (r : Nat → Int32) : Nat → Int32
  | 0 => 0
  | k + 1 => sumN r k + r k
def lrest (num : Int32) : Nat → Int32
  | 0 => num
  | p + 1 => lrest num p / 10
def lcar (kn lo : Nat → Int32) (num : Int32) : Nat → Int32
  | 0 => 0
  | p + 1 => (opn kn lo p + (lrest num p - lrest num p / 10 * 10 + lcar kn lo num p)) / 10
def mK (kn lo : Nat → Int32) (num : Int32) (p : Nat) : Int32 := lrest num p - lrest num p / 10 * 10 + lcar kn lo num p
def mL (kn lo : Nat → Int32) (num : Int32) (p : Nat) : Int32 := (opn kn lo p + mK kn lo num p) / 10
def isFull (kn lo : Nat → Int32) (num room : Int32) (p : Nat) : Prop := 0 < mK kn lo num p + mL kn lo num p ∧ room < kn p + lo p + (mK kn lo num p + mL kn lo num p)
def rsn (kn lo : Nat → Int32) (num room : Int32) : Nat → Int32
  | 0 => 0
  | p + 1 => if 0 < mK kn lo num p + mL kn lo num p ∧ room < kn p + lo p + (mK kn lo num p + mL kn lo num p) then 2 else rsn kn lo num room p
def refuse (kn lo : Nat → Int32) (num room : Int32) : Int32 := if tld kn lo 6 + num ≤ 999999 then rsn kn lo num room 6 else 1
def rop (kn lo : Nat → Int32) (m : Nat) (num room : Int32) : Int32 := if m < 16 then refuse kn lo num room else 3
theorem rsn_a {kn lo : Nat → Int32} {num room : Int32} {p : Nat} (h : rsn kn lo num room p = 0) (c : mK kn lo num p + mL kn lo num p ≤ 0) : rsn kn lo num room (p + 1) = 0 := by
  show (if _ then _ else _) = _
  rw [if_neg (fun q => Int32.not_lt.mpr c q.1)]
  exact h
theorem rsn_b {kn lo : Nat → Int32} {num room : Int32} {p : Nat} (h : rsn kn lo num room p = 0) (c : kn p + lo p + (mK kn lo num p + mL kn lo num p) ≤ room) : rsn kn lo num room (p + 1) = 0 := by
  show (if _ then _ else _) = _
  rw [if_neg (fun q => Int32.not_lt.mpr c q.2)]
  exact h
theorem rsn_c {kn lo : Nat → Int32} {num room : Int32} {p : Nat} (c1 : ¬ mK kn lo num p + mL kn lo num p ≤ 0) (c2 : ¬ kn p + lo p + (mK kn lo num p + mL kn lo num p) ≤ room) : ∀ q, p < q → rsn kn lo num room q = 2 := by
  intro q hq
  induction q with
  | zero => omega
  | succ q ih =>
    show (if _ then _ else _) = _
    by_cases hp : p = q
    · subst hp
      rw [if_pos ⟨Int32.not_le.mp c1, Int32.not_le.mp c2⟩]
    · split
      · rfl
      · exact ih (by omega)
def tK (kn lo : Nat → Int32) (num : Int32) (k : Nat) : Nat → Int32 := fun q => if q < k then kn q + mK kn lo num q else kn q
def tL (kn lo : Nat → Int32) (num : Int32) (k : Nat) : Nat → Int32 := fun q => if q < k then lo q + mL kn lo num q else lo q
theorem opn_t (kn lo : Nat → Int32) (num : Int32) (k : Nat) : opn (tK kn lo num k) (tL kn lo num k) k = opn kn lo k := by simp [opn, tK, tL]
theorem tK_0 (kn lo : Nat → Int32) (num : Int32) : tK kn lo num 0 = kn := by funext q; simp [tK]
theorem tL_0 (kn lo : Nat → Int32) (num : Int32) : tL kn lo num 0 = lo := by funext q; simp [tL]
theorem tK_up (kn lo : Nat → Int32) (num : Int32) (k : Nat) : upd (tK kn lo num k) k (tK kn lo num k k + mK kn lo num k) = tK kn lo num (k + 1) := by
  funext q
  simp only [upd, tK]
  by_cases h : q = k
  · subst h; simp
  · have h1 : (q < k + 1) = (q < k) := propext ⟨fun z => by omega, fun z => by omega⟩
    simp [h, h1]
theorem tL_up (kn lo : Nat → Int32) (num : Int32) (k : Nat) : upd (tL kn lo num k) k (tL kn lo num k k + mL kn lo num k) = tL kn lo num (k + 1) := by
  funext q
  simp only [upd, tL]
  by_cases h : q = k
  · subst h; simp
  · have h1 : (q < k + 1) = (q < k) := propext ⟨fun z => by omega, fun z => by omega⟩
    simp [h, h1]
def zK (kn : Nat → Int32) (k : Nat) : Nat → Int32 := fun q => if q < k then 0 else kn q
theorem zK_0 (kn : Nat → Int32) : zK kn 0 = kn := by funext q; simp [zK]
theorem zK_up (kn : Nat → Int32) (k : Nat) : upd (zK kn k) k 0 = zK kn (k + 1) := by
  funext q
  simp only [upd, zK]
  by_cases h : q = k
  · subst h; simp
  · have h1 : (q < k + 1) = (q < k) := propext ⟨fun z => by omega, fun z => by omega⟩
    simp [h, h1]
theorem z_m1_lt {j : Nat} (h : nI j - 1 < 0) (hj : j < 2 ^ 31) : j = 0 := by
  cases j with
  | zero => rfl
  | succ j => rw [nI_pred] at h; exact absurd h (nI_pos (by omega))
theorem z_m1_ge {j : Nat} (h : ¬ nI j - 1 < 0) : 0 < j := by
  cases j with
  | zero => exact absurd (by decide) h
  | succ j => omega
