/-! ===== the reference: how often; slots; what is told ===== -/
def hoM (i : Nat) (num : Int32) : Nat → (Nat → Int32) → Nat
  | 0, _ => 0
  | f + 1, st => if cRop st i num = 0 then hoM i num f (tieF st i num) + 1 else 0
theorem tieF_cm {st : Nat → Int32} {i : Nat} {num : Int32} (hm : cm st i < 16) : cm (tieF st i num) i = cm st i + 1 := by
  show (tieF st i num (6 + 31 * i + 1)).toNatClampNeg = _
  rw [tieF_at, if_pos rfl, nI_clamp (by omega)]
theorem tieF_K {st : Nat → Int32} {i : Nat} {num : Int32} (hm : cm st i < 16) {p : Nat} (hp : p < 6) : fK (tieF st i num) i p = tK (fK st i) (fL st i) num 6 p := by
  show tieF st i num (6 + 31 * i + (19 + p)) = if p < 6 then _ else _
  rw [tieF_at, if_neg (by omega), if_neg (by omega), knitF_at, if_neg (by omega), if_neg (by omega), if_pos (by omega), if_pos hp, show 6 + 31 * i + (19 + p) - (6 + 31 * i + 19) = p by omega]
  rfl
theorem tieF_L {st : Nat → Int32} {i : Nat} {num : Int32} (hm : cm st i < 16) {p : Nat} (hp : p < 6) : fL (tieF st i num) i p = tL (fK st i) (fL st i) num 6 p := by
  show tieF st i num (6 + 31 * i + (25 + p)) = if p < 6 then _ else _
  rw [tieF_at, if_neg (by omega), if_neg (by omega), knitF_at, if_neg (by omega), if_neg (by omega), if_neg (by omega), if_pos (by omega), if_pos hp, show 6 + 31 * i + (25 + p) - (6 + 31 * i + 25) = p by omega]
  rfl
theorem tieF_5 {st : Nat → Int32} {i : Nat} {num : Int32} : tieF st i num 5 = st 5 := by
  rw [tieF_at, if_neg (by omega), if_neg (by omega), knitF_at, if_neg (by omega), if_neg (by omega), if_neg (by omega), if_neg (by omega)]
theorem tieF_far {st : Nat → Int32} {i : Nat} {num : Int32} (hi : i < 7) (hm : cm st i ≤ 16) {x : Nat} (hx : 223 ≤ x) : tieF st i num x = st x := by
  rw [tieF_at, if_neg (by omega), if_neg (by omega), knitF_at, if_neg (by omega), if_neg (by omega), if_neg (by omega), if_neg (by omega)]
theorem hoM_eq (i : Nat) (num : Int32) : ∀ (f : Nat) (st : Nat → Int32), cm st i ≤ 16 → hoM i num f st = hoN num (st 5) f (fK st i) (fL st i) (cm st i)
  | 0, _, _ => rfl
  | f + 1, st, hm => by
    show (if cRop st i num = 0 then _ else _) = if rop (fK st i) (fL st i) (cm st i) num (st 5) = 0 then _ else _
    by_cases c : rop (fK st i) (fL st i) (cm st i) num (st 5) = 0
    · have h16 := rop_lt c
      rw [if_pos c, if_pos (show cRop st i num = 0 from c), hoM_eq i num f (tieF st i num) (by rw [tieF_cm h16]; omega), tieF_5, tieF_cm h16]
      exact congrArg (fun z => z + 1) (hoN_congr num (st 5) f (fun p hp => tieF_K h16 hp) (fun p hp => tieF_L h16 hp))
    · rw [if_neg c, if_neg (show ¬ cRop st i num = 0 from c)]
/-- no more than the parts that are left -/
theorem hoN_fuel (num room : Int32) : ∀ (f d : Nat) (kn lo : Nat → Int32) (m : Nat), m + f = 16 → hoN num room (f + d) kn lo m = hoN num room f kn lo m
  | 0, d, kn, lo, m, h => by
    cases d with
    | zero => rfl
    | succ d =>
      rw [Nat.zero_add]
      show (if rop kn lo m num room = 0 then _ else 0) = 0
      exact if_neg (fun q => by have := rop_lt q; omega)
  | f + 1, d, kn, lo, m, h => by
    rw [show f + 1 + d = (f + d) + 1 by omega]
    show (if _ then hoN num room (f + d) _ _ (m + 1) + 1 else 0) = if _ then hoN num room f _ _ (m + 1) + 1 else 0
    rw [hoN_fuel num room f d _ _ (m + 1) (by omega)]
theorem hoM_16 {st : Nat → Int32} {i : Nat} {num : Int32} (hm : cm st i ≤ 16) : hoM i num (16 - cm st i) st = hoN num (st 5) 16 (fK st i) (fL st i) (cm st i) := by
  rw [hoM_eq i num _ st hm]
  have := hoN_fuel num (st 5) (16 - cm st i) (cm st i) (fK st i) (fL st i) (cm st i) (by omega)
  rw [Nat.sub_add_cancel hm] at this
  exact this.symm
/-- the states on the way -/
def itT (st : Nat → Int32) (i : Nat) (num : Int32) : Nat → (Nat → Int32)
  | 0 => st
  | k + 1 => tieS (itT st i num k) i num
theorem cp_back {sx az S' : Nat → Int32} (h : ∀ x, 223 ≤ x → S' x = sx x) : cpF (cpF sx az 223) S' 223 = sx := by
  funext x
  unfold cpF
  by_cases hx : x < 223
  · rw [if_pos hx, if_pos hx]
  · rw [if_neg hx]; exact h x (by omega)
theorem zMu2 (j k : Nat) : 223 * nI j + nI k = nI (223 * j + k) := zMu j k
def slG (so : Nat → Int32) (j k : Nat) (st : Nat → Int32) : Nat → Int32 := fun q => if q < k then so (223 * j + q) else st q
theorem slG_0 (so : Nat → Int32) (j : Nat) (st : Nat → Int32) : slG so j 0 st = st := by funext q; exact if_neg (Nat.not_lt_zero _)
theorem slG_up (so : Nat → Int32) (j k : Nat) (st : Nat → Int32) : upd (slG so j k st) k (so (223 * j + k)) = slG so j (k + 1) st := by
  funext q
  simp only [upd, slG]
  by_cases h : q = k
  · subst h; simp
  · have h1 : (q < k + 1) = (q < k) := propext ⟨fun z => by omega, fun z => by omega⟩
    simp [h, h1]
def sumW (st : Nat → Int32) (w : Nat) : Nat → Int32 := fun c => if w = 0 then cTold st c else if w = 1 then cTies st c else (if 0 < cLack st c then 1 else 0)
def cntM (st : Nat → Int32) (sm : Int32) (w : Nat) : Int32 := if w = 0 ∨ w = 1 ∨ w = 7 then sumN (sumW st w) 7 else if w = 8 then st 5 else if w = 9 then sm else st (w - 2)
def mnF (zm : Int32) : Int32 := sumN (fun c => bitI zm (nI c)) 7
def tbF (st : Nat → Int32) (zm : Int32) : Int32 := sumN (fun c => bitI zm (nI c) * cTold st c) 7
def sfF (st : Nat → Int32) (sum : Int32) : Nat → Int32
  | 0 => -1
  | k + 1 => if tbF st (nI (k + 1)) = sum ∧ (sfF st sum k = -1 ∨ mnF (nI (k + 1)) < mnF (sfF st sum k)) then nI (k + 1) else sfF st sum k
theorem rop_lt10 (kn lo : Nat → Int32) (m : Nat) (num room : Int32) : rop kn lo m num room < 10 := by
  unfold rop refuse
  split
  · split
    · rcases rsn_02 kn lo num room 6 with e | e <;> rw [e] <;> decide
    · decide
  · decide
theorem hoM_no {i : Nat} {num : Int32} {f : Nat} {st : Nat → Int32} (h : ¬ cRop st i num = 0) {t : Nat} : t + hoM i num f st = t := by
  cases f with
  | zero => rfl
  | succ f => show t + (if _ then _ else 0) = t; rw [if_neg h]; exact Nat.add_zero t
theorem hoM_yes {i : Nat} {num : Int32} {st : Nat → Int32} (h : cRop st i num = 0) (hm : cm st i < 16) {t : Nat} : t + 1 + hoM i num (16 - cm (tieF st i num) i) (tieF st i num) = t + hoM i num (16 - cm st i) st := by
  rw [tieF_cm hm, show 16 - cm st i = (16 - (cm st i + 1)) + 1 by omega]
  show _ = t + (if _ then _ + 1 else 0)
  rw [if_pos h]
  omega
