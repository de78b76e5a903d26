/-! ===== sets of cords ===== -/
def bitI (zm c : Int32) : Int32 := zm >>> (c &&& 31) &&& 1
def setT (tl : Nat → Int32) (zm : Int32) : Nat → Int32
  | 0 => 0
  | k + 1 => if bitI zm (nI k) = 1 then setT tl zm k + tl k else setT tl zm k
def ush (x k : Int32) : Int32 := (x.toUInt32 >>> (k.toUInt32 &&& Int32.toUInt32 31)).toInt32
def bc1 (x : Int32) : Int32 := x - (ush x 1 &&& 1431655765)
def bc2 (x : Int32) : Int32 := (x &&& 858993459) + (ush x 2 &&& 858993459)
def bc3 (x : Int32) : Int32 := (x + ush x 4) &&& 252645135
def bc4 (x : Int32) : Int32 := x + ush x 8
def bc5 (x : Int32) : Int32 := x + ush x 16
def bcI (x : Int32) : Int32 := bc5 (bc4 (bc3 (bc2 (bc1 x)))) &&& 63
def cmpI (a b : Int32) : Int32 := if b ≤ a then (if a = b then 0 else 1) else -1
def betF (zm be : Int32) : Int32 := if be = -1 then zm else if cmpI (bcI zm) (bcI be) < 0 then zm else if cmpI (bcI zm) (bcI be) = 0 then (if be ≤ zm then be else zm) else be
def boA (tl : Nat → Int32) (sum : Int32) : Nat → Int32
  | 0 => -1
  | k + 1 => if setT tl (nI (k + 1)) 7 = sum then betF (nI (k + 1)) (boA tl sum k) else boA tl sum k
/-- the cords from 7 - d on, with and without -/
def btF (tl : Nat → Int32) : Nat → Int32 → Int32 → Int32 → Int32
  | 0, left, zm, be => if left = 0 then betF zm be else be
  | d + 1, left, zm, be => if left = 0 then betF zm be else if left < 0 then be else btF tl d left zm (btF tl d (left - tl (6 - d)) (zm ||| 1 <<< (nI (6 - d) &&& 31)) be)
def forF (tl : Nat → Int32) (sum : Int32) (w : Nat) : Int32 := if w = 0 then boA tl sum 127 else btF tl 7 sum 0 (-1)
section
variable {tl tl2 : Nat → Int32}
theorem setT_congr (h : ∀ k, k < 7 → tl k = tl2 k) (zm : Int32) : ∀ k, k ≤ 7 → setT tl zm k = setT tl2 zm k
  | 0, _ => rfl
  | k + 1, hk => by
    show (if _ then _ else _) = if _ then _ else _
    rw [setT_congr h zm k (by omega), h k (by omega)]
theorem boA_congr (h : ∀ k, k < 7 → tl k = tl2 k) (sum : Int32) : ∀ k, boA tl sum k = boA tl2 sum k
  | 0 => rfl
  | k + 1 => by
    show (if _ then _ else _) = if _ then _ else _
    rw [boA_congr h sum k, setT_congr h _ 7 (Nat.le_refl _)]
theorem btF_congr (h : ∀ k, k < 7 → tl k = tl2 k) : ∀ (d : Nat) (left zm be : Int32), btF tl d left zm be = btF tl2 d left zm be
  | 0, _, _, _ => rfl
  | d + 1, left, zm, be => by
    show (if _ then _ else if _ then _ else _) = if _ then _ else if _ then _ else _
    rw [h (6 - d) (by omega), btF_congr h d, btF_congr h d]
theorem forF_congr (h : ∀ k, k < 7 → tl k = tl2 k) (sum : Int32) (w : Nat) : forF tl sum w = forF tl2 sum w := by
  unfold forF
  rw [boA_congr h, btF_congr h]
theorem tellF_7 (st tl : Nat → Int32) : ∀ k, k < 7 → tellF st tl 7 k = cTold st k := fun k hk => if_pos hk
theorem zfor0 {st : Nat → Int32} {sum : Int32} {wz : Nat} (hw : wz < 2) (c : (nI wz : Int32) = 0) : boA (tellF st tl 7) sum 127 = forF (cTold st) sum wz := by
  have e : wz = 0 := by
    rcases Nat.lt_or_ge wz 1 with q | q
    · omega
    · have e1 : wz = 1 := by omega
      subst e1; exact absurd c (by decide)
  subst e
  exact (boA_congr (tellF_7 st tl) sum 127)
theorem zfor1 {st : Nat → Int32} {sum : Int32} {wz : Nat} (hw : wz < 2) (c : ¬ (nI wz : Int32) = 0) : btF (tellF st tl 7) 7 sum 0 (-1) = forF (cTold st) sum wz := by
  have e : wz = 1 := by
    rcases Nat.lt_or_ge wz 1 with q | q
    · have e1 : wz = 0 := by omega
      subst e1; exact absurd (by decide) c
    · omega
  subst e
  exact (btF_congr (tellF_7 st tl) 7 sum 0 (-1))
end
