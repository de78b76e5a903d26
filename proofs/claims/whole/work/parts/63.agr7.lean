/-! ===== the class's numbers and the reference's: the same, but parts beyond the count ===== -/
def sE (st s : Nat → Int32) : Prop := ∀ x, x < 223 → (∀ i k, i < 7 → cm st i ≤ k → k < 16 → x ≠ 6 + 31 * i + (3 + k)) → st x = s x
section
variable {st s : Nat → Int32}
theorem sE.rf (st : Nat → Int32) : sE st st := fun _ _ _ => rfl
theorem sE.c (h : sE st s) {x : Nat} (hx : x < 6) : st x = s x := h x (by omega) (fun i k h1 h2 h3 => by omega)
theorem sE.f (h : sE st s) {i j : Nat} (hi : i < 7) (hj : j < 31) (hn : j < 3 ∨ 19 ≤ j) : st (6 + 31 * i + j) = s (6 + 31 * i + j) := h _ (by omega) (fun i2 k h1 h2 h3 => by omega)
theorem sE.p (h : sE st s) {i k : Nat} (hi : i < 7) (hk : k < cm st i) (hm : cm st i ≤ 16) : st (6 + 31 * i + (3 + k)) = s (6 + 31 * i + (3 + k)) := h _ (by omega) (fun i2 k2 h1 h2 h3 q => by
  have e1 : i2 = i := by omega
  subst e1
  omega)
theorem sE.m (h : sE st s) {i : Nat} (hi : i < 7) : cm st i = cm s i := congrArg Int32.toNatClampNeg (h.f hi (j := 1) (by decide) (Or.inl (by decide)))
theorem sE.K (h : sE st s) {i : Nat} (hi : i < 7) : ∀ p, p < 6 → fK st i p = fK s i p := fun p hp => h.f hi (j := 19 + p) (by omega) (Or.inr (by omega))
theorem sE.L (h : sE st s) {i : Nat} (hi : i < 7) : ∀ p, p < 6 → fL st i p = fL s i p := fun p hp => h.f hi (j := 25 + p) (by omega) (Or.inr (by omega))
theorem sE.to (h : sE st s) {i : Nat} (hi : i < 7) : cTold st i = cTold s i := tld_congr (h.K hi) (h.L hi) 6
theorem sE.ti (h : sE st s) {i : Nat} (hi : i < 7) : cTies st i = cTies s i := by
  unfold cTies
  rw [sumN_congr (m := 6) (h.K hi), sumN_congr (m := 6) (h.L hi)]
theorem sE.pa (h : sE st s) (hpc : pcOK st) {i : Nat} (hi : i < 7) : cParts st i = cParts s i := by
  unfold cParts
  rw [← h.m hi]
  exact sumN_congr (fun k hk => h.p hi hk (hpc i hi).2)
theorem sE.la (h : sE st s) (hpc : pcOK st) {i : Nat} (hi : i < 7) : cLack st i = cLack s i := by
  unfold cLack
  rw [h.pa hpc hi, h.to hi]
theorem sE.ro (h : sE st s) {i : Nat} (hi : i < 7) (num : Int32) : cRop st i num = cRop s i num := by
  unfold cRop
  rw [h.m hi, h.c (x := 5) (by decide)]
  exact rop_congr (h.K hi) (h.L hi)
theorem sE.re (h : sE st s) {i : Nat} (hi : i < 7) (num : Int32) : cRef st i num = cRef s i num := by
  unfold cRef
  rw [h.c (x := 5) (by decide)]
  exact refuse_congr (h.K hi) (h.L hi)
theorem sE.sL (h : sE st s) {i : Nat} (hi : i < 7) (num : Int32) : sumN (mL (fK st i) (fL st i) num) 6 = sumN (mL (fK s i) (fL s i) num) 6 := sumN_congr (fun p hp => mL_congr (h.K hi) (h.L hi) hp)
theorem sE.sK (h : sE st s) {i : Nat} (hi : i < 7) (num : Int32) : sumN (mK (fK st i) (fL st i) num) 6 = sumN (mK (fK s i) (fL s i) num) 6 := sumN_congr (fun p hp => mK_congr (h.K hi) (h.L hi) hp)
theorem sE.tR (h : sE st s) {i : Nat} (hi : i < 7) (num : Int32) : tieR st i num = tieR s i num := by
  unfold tieR
  rw [h.ro hi, h.sL hi]
theorem sE.aR (h : sE st s) {i j : Nat} (hi : i < 7) (hj : j < 7) : addR st i j = addR s i j := by
  unfold addR
  rw [h.to hi, h.tR hj]
theorem sE.sR (h : sE st s) {i j : Nat} (hi : i < 7) (hj : j < 6) : slipR st i j = slipR s i j := by
  unfold slipR
  rw [opn_congr (h.K hi) (h.L hi) hj, h.K hi j hj, h.L hi j hj]
theorem sE.mR (h : sE st s) (hpc : pcOK st) {i : Nat} (hi : i < 7) : mendR st i = mendR s i := by
  unfold mendR
  rw [h.la hpc hi, h.re hi]
theorem sE.pc (h : sE st s) (hpc : pcOK st) : pcOK s := fun i hi => by
  rw [← h.m hi, ← h.f hi (j := 1) (by decide) (Or.inl (by decide))]
  exact hpc i hi
/-- one number is written on both sides -/
theorem sE.up (h : sE st s) {x : Nat} (hx : x < 6 ∨ ∃ i, i < 7 ∧ x = 6 + 31 * i + 0) (v : Int32) : sE (upd st x v) (upd s x v) := by
  intro y hy hn
  have e : ∀ i, i < 7 → cm (upd st x v) i = cm st i := fun i hi => congrArg Int32.toNatClampNeg (if_neg (by rcases hx with hx | ⟨i2, -, hx⟩ <;> omega))
  show (if y = x then v else st y) = if y = x then v else s y
  by_cases c : y = x
  · rw [if_pos c, if_pos c]
  · rw [if_neg c, if_neg c]
    exact h y hy (fun i k h1 h2 h3 => hn i k h1 (by rw [e i h1]; exact h2) h3)
end
