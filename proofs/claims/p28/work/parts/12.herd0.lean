/-! ===== a cord and a herd by one row of numbers, laid out as the reference lays them: 0..5 what is counted and the setting, then 31 a cord ===== -/
def fK (st : Nat → Int32) (i : Nat) : Nat → Int32 := fun p => st (6 + 31 * i + (19 + p))
def fL (st : Nat → Int32) (i : Nat) : Nat → Int32 := fun p => st (6 + 31 * i + (25 + p))
def fP (st : Nat → Int32) (i : Nat) : Nat → Int32 := fun p => st (6 + 31 * i + (3 + p))
def isCs (cy : Nat → ClassId) (K : Nat) (ad : Nat → Nat) (g : Nat → va_E) (n : Nat) (x : Nat → Int32) : Prop := ∃ kn lo pa : Nat → Int32, isC cy K ad g n kn lo pa (x 1) (x 0) (x 2) ∧ (∀ p, p < 6 → kn p = x (19 + p)) ∧ (∀ p, p < 6 → lo p = x (25 + p)) ∧ (∀ k, k < 16 → pa k = x (3 + k))
def isH (cy : Nat → ClassId) (K : Nat) (ad : Nat → Nat) (g : Nat → va_E) (n : Nat) (st : Nat → Int32) : Prop := ∃ rw : Nat → Option Nat, isG cy K ad g n rw (st 5) (st 0) (st 1) (st 2) (st 3) (st 4) ∧ (∀ i, i < 7 → rw i = some (ad (n + 2 + 4 * i))) ∧ ∀ i, i < 7 → isCs cy K ad g (n + 2 + 4 * i) (fun j => st (6 + 31 * i + j))
section ZH
variable {cy : Nat → ClassId} {K : Nat} {ad : Nat → Nat} {g g1 : Nat → va_E} {n : Nat} {x y st st' : Nat → Int32} {P : Nat → Prop}
theorem isCs.lt (h : isCs cy K ad g n x) : n + 4 ≤ K := by obtain ⟨kn, lo, pa, h, -⟩ := h; exact h.1
theorem isCs.n0 (h : isCs cy K ad g n x) : n < K := by have := h.lt; omega
theorem isCs.rc (h : isCs cy K ad g n x) : ∃ fs, g n = .inr (0, fs) := by obtain ⟨kn, lo, pa, h, -⟩ := h; exact ⟨_, h.o⟩
theorem isCs.kept (h : isCs cy K ad g n x) (hf : zFr P g g1) (hd : ∀ z, n ≤ z → z < n + 4 → ¬ P z) : isCs cy K ad g1 n x := by
  obtain ⟨kn, lo, pa, h, h2⟩ := h
  exact ⟨kn, lo, pa, h.kept hf ⟨hd _ (by omega) (by omega), hd _ (by omega) (by omega), hd _ (by omega) (by omega), hd _ (by omega) (by omega)⟩, h2⟩
theorem isCs.congr (h : isCs cy K ad g n x) (he : ∀ j, j < 31 → x j = y j) : isCs cy K ad g n y := by
  obtain ⟨kn, lo, pa, h, h1, h2, h3⟩ := h
  refine ⟨kn, lo, pa, ?_, fun p hp => (h1 p hp).trans (he _ (by omega)), fun p hp => (h2 p hp).trans (he _ (by omega)), fun p hp => (h3 p hp).trans (he _ (by omega))⟩
  rw [← he 0 (by omega), ← he 1 (by omega), ← he 2 (by omega)]
  exact h
theorem isH.lt (h : isH cy K ad g n st) : n + 30 ≤ K := by
  obtain ⟨rw, h, -, h3⟩ := h
  have := (h3 6 (by omega)).lt
  omega
theorem isH.n0 (h : isH cy K ad g n st) : n < K := by have := h.lt; omega
theorem isH.rc (h : isH cy K ad g n st) : ∃ fs, g n = .inr (1, fs) := by obtain ⟨rw, h, -⟩ := h; exact ⟨_, h.o⟩
theorem isH.kept (h : isH cy K ad g n st) (hf : zFr P g g1) (hd : ∀ z, n ≤ z → z < n + 30 → ¬ P z) : isH cy K ad g1 n st := by
  obtain ⟨rw, h, h2, h3⟩ := h
  exact ⟨rw, h.kept hf ⟨hd _ (by omega) (by omega), hd _ (by omega) (by omega)⟩, h2, fun i hi => (h3 i hi).kept hf (fun z h1 h2 => hd z (by omega) (by omega))⟩
theorem isH.congr (h : isH cy K ad g n st) (he : ∀ j, j < 223 → st j = st' j) : isH cy K ad g n st' := by
  obtain ⟨rw, h, h2, h3⟩ := h
  refine ⟨rw, ?_, h2, fun i hi => (h3 i hi).congr (fun j hj => he _ (by omega))⟩
  rw [← he 0 (by omega), ← he 1 (by omega), ← he 2 (by omega), ← he 3 (by omega), ← he 4 (by omega), ← he 5 (by omega)]
  exact h
/-- a herd behind a change of its own numbers and of one cord -/
theorem isH.put (h : isH cy K ad g n st) {i : Nat} (hi : i < 7) {rw : Nat → Option Nat} {ro kt lt sl go re : Int32} (hrw : ∀ i, i < 7 → rw i = some (ad (n + 2 + 4 * i))) (hf : zFr (fun z => z = n ∨ (n + 2 + 4 * i ≤ z ∧ z < n + 2 + 4 * i + 4)) g g1) (hG : isG cy K ad g1 n rw ro kt lt sl go re) (hC : isCs cy K ad g1 (n + 2 + 4 * i) x)
    (e5 : ro = st' 5) (e0 : kt = st' 0) (e1 : lt = st' 1) (e2 : sl = st' 2) (e3 : go = st' 3) (e4 : re = st' 4) (ex : ∀ j, j < 31 → x j = st' (6 + 31 * i + j)) (eo : ∀ k, k < 7 → k ≠ i → ∀ j, j < 31 → st' (6 + 31 * k + j) = st (6 + 31 * k + j)) : isH cy K ad g1 n st' := by
  obtain ⟨rw0, h, h2, h3⟩ := h
  subst e5; subst e0; subst e1; subst e2; subst e3; subst e4
  refine ⟨rw, hG, hrw, fun k hk => ?_⟩
  by_cases hki : k = i
  · subst hki
    exact hC.congr ex
  · refine ((h3 k hk).kept hf (fun z h1 h2 => ?_)).congr (fun j hj => (eo k hk hki j hj).symm)
    show ¬ (z = n ∨ _)
    omega
end ZH
theorem opn_congr {kn lo kn' lo' : Nat → Int32} (h1 : ∀ p, p < 6 → kn p = kn' p) (h2 : ∀ p, p < 6 → lo p = lo' p) {p : Nat} (hp : p < 6) : opn kn lo p = opn kn' lo' p := by unfold opn; rw [h1 p hp, h2 p hp]
theorem tld_congr {kn lo kn' lo' : Nat → Int32} (h1 : ∀ p, p < 6 → kn p = kn' p) (h2 : ∀ p, p < 6 → lo p = lo' p) (k : Nat) : tld kn lo k = tld kn' lo' k := by
  induction k with
  | zero => rfl
  | succ k ih => show 10 * tld kn lo k + opn kn lo (5 - k) = 10 * tld kn' lo' k + opn kn' lo' (5 - k); rw [ih, opn_congr h1 h2 (by omega)]
theorem sumN_congr {f f' : Nat → Int32} {m : Nat} (h : ∀ k, k < m → f k = f' k) : sumN f m = sumN f' m := by
  induction m with
  | zero => rfl
  | succ m ih => show sumN f m + f m = sumN f' m + f' m; rw [ih (fun k hk => h k (by omega)), h m (by omega)]
theorem lcar_congr {kn lo kn' lo' : Nat → Int32} {num : Int32} (h1 : ∀ p, p < 6 → kn p = kn' p) (h2 : ∀ p, p < 6 → lo p = lo' p) {p : Nat} (hp : p ≤ 6) : lcar kn lo num p = lcar kn' lo' num p := by
  induction p with
  | zero => rfl
  | succ p ih => show (opn kn lo p + (_ + lcar kn lo num p)) / 10 = (opn kn' lo' p + (_ + lcar kn' lo' num p)) / 10; rw [ih (by omega), opn_congr h1 h2 (by omega)]
theorem mK_congr {kn lo kn' lo' : Nat → Int32} {num : Int32} (h1 : ∀ p, p < 6 → kn p = kn' p) (h2 : ∀ p, p < 6 → lo p = lo' p) {p : Nat} (hp : p < 6) : mK kn lo num p = mK kn' lo' num p := by unfold mK; rw [lcar_congr h1 h2 (by omega)]
theorem mL_congr {kn lo kn' lo' : Nat → Int32} {num : Int32} (h1 : ∀ p, p < 6 → kn p = kn' p) (h2 : ∀ p, p < 6 → lo p = lo' p) {p : Nat} (hp : p < 6) : mL kn lo num p = mL kn' lo' num p := by unfold mL; rw [opn_congr h1 h2 hp, mK_congr h1 h2 hp]
theorem rsn_congr {kn lo kn' lo' : Nat → Int32} {num room : Int32} (h1 : ∀ p, p < 6 → kn p = kn' p) (h2 : ∀ p, p < 6 → lo p = lo' p) {p : Nat} (hp : p ≤ 6) : rsn kn lo num room p = rsn kn' lo' num room p := by
  induction p with
  | zero => rfl
  | succ p ih =>
    show (if 0 < mK kn lo num p + mL kn lo num p ∧ room < kn p + lo p + (mK kn lo num p + mL kn lo num p) then 2 else rsn kn lo num room p) = (if 0 < mK kn' lo' num p + mL kn' lo' num p ∧ room < kn' p + lo' p + (mK kn' lo' num p + mL kn' lo' num p) then 2 else rsn kn' lo' num room p)
    rw [ih (by omega), mK_congr h1 h2 (by omega), mL_congr h1 h2 (by omega), h1 p (by omega), h2 p (by omega)]
theorem refuse_congr {kn lo kn' lo' : Nat → Int32} {num room : Int32} (h1 : ∀ p, p < 6 → kn p = kn' p) (h2 : ∀ p, p < 6 → lo p = lo' p) : refuse kn lo num room = refuse kn' lo' num room := by unfold refuse; rw [tld_congr h1 h2, rsn_congr h1 h2 (by omega)]
theorem rop_congr {kn lo kn' lo' : Nat → Int32} {m : Nat} {num room : Int32} (h1 : ∀ p, p < 6 → kn p = kn' p) (h2 : ∀ p, p < 6 → lo p = lo' p) : rop kn lo m num room = rop kn' lo' m num room := by unfold rop; rw [refuse_congr h1 h2]
theorem tK_congr {kn lo kn' lo' : Nat → Int32} {num : Int32} (h1 : ∀ p, p < 6 → kn p = kn' p) (h2 : ∀ p, p < 6 → lo p = lo' p) {p : Nat} (hp : p < 6) : tK kn lo num 6 p = tK kn' lo' num 6 p := by unfold tK; rw [if_pos hp, if_pos hp, h1 p hp, mK_congr h1 h2 hp]
theorem tL_congr {kn lo kn' lo' : Nat → Int32} {num : Int32} (h1 : ∀ p, p < 6 → kn p = kn' p) (h2 : ∀ p, p < 6 → lo p = lo' p) {p : Nat} (hp : p < 6) : tL kn lo num 6 p = tL kn' lo' num 6 p := by unfold tL; rw [if_pos hp, if_pos hp, h2 p hp, mL_congr h1 h2 hp]
theorem sumN_add (f f' : Nat → Int32) (m : Nat) : sumN (fun p => f p + f' p) m = sumN f m + sumN f' m := by
  induction m with
  | zero => rfl
  | succ m ih => show sumN _ m + (f m + f' m) = (sumN f m + f m) + (sumN f' m + f' m); rw [ih]; grind
theorem sumN_tK (kn lo : Nat → Int32) (num : Int32) : sumN (tK kn lo num 6) 6 = sumN kn 6 + sumN (mK kn lo num) 6 := by
  rw [← sumN_add]; exact sumN_congr (fun k hk => by simp [tK, hk])
theorem sumN_tL (kn lo : Nat → Int32) (num : Int32) : sumN (tL kn lo num 6) 6 = sumN lo 6 + sumN (mL kn lo num) 6 := by
  rw [← sumN_add]; exact sumN_congr (fun k hk => by simp [tL, hk])
theorem rop_lt {kn lo : Nat → Int32} {m : Nat} {num room : Int32} (h : rop kn lo m num room = 0) : m < 16 := by
  unfold rop at h
  split at h
  · assumption
  · exact absurd h (by decide)
def cTold (st : Nat → Int32) (i : Nat) : Int32 := tld (fK st i) (fL st i) 6
def cm (st : Nat → Int32) (i : Nat) : Nat := (st (6 + 31 * i + 1)).toNatClampNeg
def cParts (st : Nat → Int32) (i : Nat) : Int32 := sumN (fP st i) (cm st i)
def cTies (st : Nat → Int32) (i : Nat) : Int32 := sumN (fK st i) 6 + sumN (fL st i) 6
def pcOK (st : Nat → Int32) : Prop := ∀ i, i < 7 → st (6 + 31 * i + 1) = nI (cm st i) ∧ cm st i ≤ 16
def cRop (st : Nat → Int32) (i : Nat) (num : Int32) : Int32 := rop (fK st i) (fL st i) (cm st i) num (st 5)
def cRef (st : Nat → Int32) (i : Nat) (num : Int32) : Int32 := refuse (fK st i) (fL st i) num (st 5)
def knitF (st : Nat → Int32) (i : Nat) (num : Int32) : Nat → Int32 := fun x =>
  if x = 0 then st 0 + sumN (mK (fK st i) (fL st i) num) 6
  else if x = 1 then st 1 + sumN (mL (fK st i) (fL st i) num) 6
  else if 6 + 31 * i + 19 ≤ x ∧ x < 6 + 31 * i + 25 then st x + mK (fK st i) (fL st i) num (x - (6 + 31 * i + 19))
  else if 6 + 31 * i + 25 ≤ x ∧ x < 6 + 31 * i + 31 then st x + mL (fK st i) (fL st i) num (x - (6 + 31 * i + 25))
  else st x
def tieF (st : Nat → Int32) (i : Nat) (num : Int32) : Nat → Int32 := fun x =>
  if x = 6 + 31 * i + 1 then nI (cm st i + 1) else if x = 6 + 31 * i + (3 + cm st i) then num else knitF st i num x
def tieS (st : Nat → Int32) (i : Nat) (num : Int32) : Nat → Int32 := if cRop st i num = 0 then tieF st i num else upd st 4 (st 4 + 1)
def tieR (st : Nat → Int32) (i : Nat) (num : Int32) : Int32 := if cRop st i num = 0 then 10 + sumN (mL (fK st i) (fL st i) num) 6 else cRop st i num
def addS (st : Nat → Int32) (i j : Nat) : Nat → Int32 := if cTold st i = 0 then st else tieS st j (cTold st i)
def addR (st : Nat → Int32) (i j : Nat) : Int32 := if cTold st i = 0 then 0 else tieR st j (cTold st i)
def slipF (st : Nat → Int32) (i p : Nat) : Nat → Int32 := fun x => if x = 6 + 31 * i + (19 + p) then st x - 1 else if x = 6 + 31 * i + 2 then st x + 1 else if x = 2 then st 2 + 1 else st x
def slipS (st : Nat → Int32) (i p : Nat) : Nat → Int32 := if opn (fK st i) (fL st i) p = 0 then upd st 4 (st 4 + 1) else slipF st i p
def slipR (st : Nat → Int32) (i p : Nat) : Int32 := if opn (fK st i) (fL st i) p = 0 then -1 else fK st i p - 1 - 10 * fL st i p
def cLack (st : Nat → Int32) (i : Nat) : Int32 := cParts st i - cTold st i
def mendS (st : Nat → Int32) (i : Nat) : Nat → Int32 := if cLack st i = 0 then st else if cRef st i (cLack st i) = 0 then knitF st i (cLack st i) else upd st 4 (st 4 + 1)
def mendR (st : Nat → Int32) (i : Nat) : Int32 := if cLack st i = 0 then 0 else if cRef st i (cLack st i) = 0 then cLack st i else - cRef st i (cLack st i)
/-- a new cord, as the class makes it: what lies beyond the count of the parts stays -/
def renF (st : Nat → Int32) (i : Nat) : Nat → Int32 := fun x => if x = 3 then st 3 + cTies st i else if x = 6 + 31 * i + 1 ∨ x = 6 + 31 * i + 2 then 0 else if 6 + 31 * i + 19 ≤ x ∧ x < 6 + 31 * i + 31 then 0 else st x
