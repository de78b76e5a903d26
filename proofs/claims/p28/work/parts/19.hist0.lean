/-! ===== the saved states, in a ring ===== -/
def isHa (cy : Nat → ClassId) (K : Nat) (ad : Nat → Nat) (g : Nat → va_E) (n : Nat) (sv : Nat → Nat → Int32) : Prop := ∀ j, j < 6 → isH cy K ad g (n + 2 + 30 * j) (sv j)
def isHi (cy : Nat → ClassId) (K : Nat) (ad : Nat → Nat) (g : Nat → va_E) (n : Nat) (sv : Nat → Nat → Int32) (nx sz : Nat) : Prop := ∃ rw : Nat → Option Nat, isY cy K ad g n rw (nI nx) (nI sz) ∧ (∀ j, j < 6 → rw j = some (ad (n + 2 + 30 * j))) ∧ isHa cy K ad g n sv
section
variable {cy : Nat → ClassId} {K : Nat} {ad : Nat → Nat} {g g1 : Nat → va_E} {n nx sz : Nat} {sv : Nat → Nat → Int32} {st : Nat → Int32} {P : Nat → Prop}
theorem isHa.kept (h : isHa cy K ad g n sv) (hf : zFr P g g1) (hd : ∀ z, n + 2 ≤ z → z < n + 182 → ¬ P z) : isHa cy K ad g1 n sv := fun j hj => (h j hj).kept hf (fun z h1 h2 => hd z (by omega) (by omega))
theorem isHa.put (h : isHa cy K ad g n sv) {j : Nat} (hj : j < 6) (hf : zFr (zRg (n + 2 + 30 * j) (n + 2 + 30 * j + 30)) g g1) (hH : isH cy K ad g1 (n + 2 + 30 * j) st) : isHa cy K ad g1 n (va_up sv j st) := by
  intro i hi
  by_cases hij : i = j
  · subst hij; rw [va_up_self]; exact hH
  · rw [va_up_ne _ _ hij]
    exact (h i hi).kept hf (fun z h1 h2 => by dsimp only [zRg]; omega)
theorem isHi.kept (h : isHi cy K ad g n sv nx sz) (hf : zFr P g g1) (hd : ∀ z, n ≤ z → z < n + 182 → ¬ P z) : isHi cy K ad g1 n sv nx sz := by
  obtain ⟨rw, h1, h2, h3⟩ := h
  exact ⟨rw, h1.kept hf ⟨hd _ (by omega) (by omega), hd _ (by omega) (by omega)⟩, h2, h3.kept hf (fun z q1 q2 => hd z (by omega) (by omega))⟩
theorem isHi.rc (h : isHi cy K ad g n sv nx sz) : ∃ fs, g n = .inr (2, fs) := by obtain ⟨rw, h1, -⟩ := h; exact ⟨_, h1.o⟩
theorem isHi.lt (h : isHi cy K ad g n sv nx sz) : n + 182 ≤ K := by obtain ⟨rw, h1, h2, h3⟩ := h; have := (h3 5 (by omega)).lt; omega
theorem isHi.n0 (h : isHi cy K ad g n sv nx sz) : n < K := by have := h.lt; omega
end
theorem zmin6 (k : Nat) (hk : k ≤ 6) : (if (6 : Int32) < nI (k + 1) then 6 else nI (k + 1)) = nI (min (k + 1) 6) := by
  by_cases h : k + 1 ≤ 6
  · show (if nI 6 < nI (k + 1) then _ else _) = _
    rw [if_neg (nI_nlt (a := 6) (b := k + 1) h (by omega)), Nat.min_eq_left h]
  · show (if nI 6 < nI (k + 1) then _ else _) = _
    rw [if_pos (nI_lt (a := 6) (b := k + 1) (by omega) (by omega)), Nat.min_eq_right (by omega)]
    rfl
/-! ===== the reader of orders, sign by sign: step, digits, cord, kind, value ===== -/
abbrev RS : Type := Int32 × Int32 × Int32 × Int32 × Int32
abbrev mayB (ki co d : Int32) : Prop := (ki = 43 ∧ 1 ≤ d ∧ d ≤ 9) ∨ (ki ≠ 43 ∧ ki = 62 ∧ 0 ≤ d ∧ d < 7 ∧ d ≠ co) ∨ (ki ≠ 43 ∧ ki ≠ 62 ∧ 0 ≤ d ∧ d < 6)
def rdStep (s : RS) (c : Int32) : Option RS :=
  if s.1 = 0 then (if 0 ≤ c - 48 ∧ c - 48 < 7 then some (1, s.2.1, c - 48, s.2.2.2.1, s.2.2.2.2) else none)
  else if s.1 = 1 then (if c = 43 ∨ c = 62 ∨ c = 126 then some (2, s.2.1, s.2.2.1, c, s.2.2.2.2) else none)
  else if s.1 = 2 then (if mayB s.2.2.2.1 s.2.2.1 (c - 48) then some (3, 1, s.2.2.1, s.2.2.2.1, c - 48) else none)
  else if c = 59 then some (0, s.2.1, s.2.2.1, s.2.2.2.1, s.2.2.2.2)
  else if s.2.2.2.1 = 43 ∧ s.2.1 < 6 ∧ 0 ≤ c - 48 ∧ c - 48 ≤ 9 then some (s.1, s.2.1 + 1, s.2.2.1, s.2.2.2.1, 10 * s.2.2.2.2 + (c - 48)) else none
def isRs (cy : Nat → ClassId) (K : Nat) (ad : Nat → Nat) (g : Nat → va_E) (n : Nat) (s : RS) : Prop := isR cy K ad g n s.1 s.2.1 s.2.2.1 s.2.2.2.1 s.2.2.2.2
/-- what a reading of a sign leaves -/
def rdPost (cy : Nat → ClassId) (K : Nat) (ad : Nat → Nat) (n : Nat) (s : RS) (o : Option RS) (r : Int32) (g1 : Nat → va_E) : Prop := (∃ s', o = some s' ∧ r = 1 ∧ isRs cy K ad g1 n s') ∨ (o = none ∧ r = 0 ∧ isRs cy K ad g1 n s)
theorem rdPost.bool {cy : Nat → ClassId} {K : Nat} {ad : Nat → Nat} {n : Nat} {s : RS} {o : Option RS} {r : Int32} {g1 : Nat → va_E} (h : rdPost cy K ad n s o r g1) : narrow .boolean (.int r) = .int r := by
  rcases h with ⟨s', -, rfl, -⟩ | ⟨-, rfl, -⟩ <;> rfl
