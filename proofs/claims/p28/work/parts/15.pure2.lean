def allK (st : Nat → Int32) : Nat → Int32 := fun i => sumN (fK st i) 6
def allL (st : Nat → Int32) : Nat → Int32 := fun i => sumN (fL st i) 6
def lackN (st : Nat → Int32) : Nat → Int32 := fun i => if cLack st i ≤ 0 then 0 else 1
def hueN (st : Nat → Int32) (hu : Int32) : Nat → Int32 := fun i => if st (6 + 31 * i + 0) = hu then cTold st i else 0
def fulN (st : Nat → Int32) : Nat → Nat
  | 0 => 0
  | k + 1 => if cTies st (k + 1) ≤ cTies st (fulN st k) then fulN st k else k + 1
theorem fulN_le (st : Nat → Int32) (k : Nat) : fulN st k ≤ k := by
  induction k with
  | zero => exact Nat.le_refl _
  | succ k ih =>
    show (if _ then _ else _) ≤ _
    split
    · omega
    · exact Nat.le_refl _
def tellF (st tl : Nat → Int32) (k : Nat) : Nat → Int32 := fun q => if q < k then cTold st q else tl q
theorem tellF_0 (st tl : Nat → Int32) : tellF st tl 0 = tl := by funext q; simp [tellF]
theorem tellF_up (st tl : Nat → Int32) (k : Nat) : upd (tellF st tl k) k (cTold st k) = tellF st tl (k + 1) := by
  funext q
  simp only [upd, tellF]
  by_cases h : q = k
  · subst h; simp
  · have h1 : (q < k + 1) = (q < k) := propext ⟨fun z => by omega, fun z => by omega⟩
    simp [h, h1]
/-- the cords ahead of k out of st2, the rest out of st -/
def mixF (st st2 : Nat → Int32) (k : Nat) : Nat → Int32 := fun x => if 6 ≤ x ∧ x < 6 + 31 * k then st2 x else st x
theorem mixF_0 (st st2 : Nat → Int32) : mixF st st2 0 = st := by funext x; unfold mixF; rw [if_neg (by omega)]
theorem mixF_c {st st2 : Nat → Int32} {k x : Nat} (h : x < 6) : mixF st st2 k x = st x := by unfold mixF; rw [if_neg (by omega)]
theorem mixF_in {st st2 : Nat → Int32} {k i j : Nat} (h : i < k) (hj : j < 31) : mixF st st2 k (6 + 31 * i + j) = st2 (6 + 31 * i + j) := by unfold mixF; rw [if_pos (by omega)]
theorem mixF_out {st st2 : Nat → Int32} {k i j : Nat} (h : k ≤ i) : mixF st st2 k (6 + 31 * i + j) = st (6 + 31 * i + j) := by unfold mixF; rw [if_neg (by omega)]
section
variable {cy : Nat → ClassId} {K : Nat} {ad : Nat → Nat} {g g1 : Nat → va_E} {n k : Nat} {st st2 : Nat → Int32}
theorem isH.mix (h : isH cy K ad g n (mixF st st2 k)) (hk : k < 7) {rw : Nat → Option Nat} {kn lo pa kn2 lo2 pa2 : Nat → Int32} (hrw : ∀ i, i < 7 → rw i = some (ad (n + 2 + 4 * i))) (hf : zFr (zRg (n + 2 + 4 * k) (n + 2 + 4 * k + 4)) g g1)
    (hG : isG cy K ad g1 n rw (mixF st st2 k 5) (mixF st st2 k 0) (mixF st st2 k 1) (mixF st st2 k 2) (mixF st st2 k 3) (mixF st st2 k 4)) (hC : isC cy K ad g1 (n + 2 + 4 * k) (va_cpy kn2 kn 0 0 6) (va_cpy lo2 lo 0 0 6) (va_cpy pa2 pa 0 0 16) (st2 (6 + 31 * k + 1)) (st2 (6 + 31 * k + 0)) (st2 (6 + 31 * k + 2)))
    (h1 : ∀ p, p < 6 → kn2 p = st2 (6 + 31 * k + (19 + p))) (h2 : ∀ p, p < 6 → lo2 p = st2 (6 + 31 * k + (25 + p))) (h3 : ∀ p, p < 16 → pa2 p = st2 (6 + 31 * k + (3 + p))) : isH cy K ad g1 n (mixF st st2 (k + 1)) := by
  have e : ∀ x, x < 6 → mixF st st2 k x = mixF st st2 (k + 1) x := fun x hx => (mixF_c hx).trans (mixF_c hx).symm
  refine h.put hk (x := fun j => st2 (6 + 31 * k + j)) hrw (hf.mono (fun x hx => by dsimp only [zRg] at hx ⊢; omega)) hG ⟨_, _, _, hC, fun p hp => (sb_cpy0 hp).trans (h1 p hp), fun p hp => (sb_cpy0 hp).trans (h2 p hp), fun p hp => (sb_cpy0 hp).trans (h3 p hp)⟩ (e _ (by decide)) (e _ (by decide)) (e _ (by decide)) (e _ (by decide)) (e _ (by decide)) (e _ (by decide)) (fun j hj => (mixF_in (by omega) hj).symm) (fun i hi hik j hj => ?_)
  rcases Nat.lt_or_gt_of_ne hik with h5 | h5
  · rw [mixF_in (by omega) hj, mixF_in h5 hj]
  · rw [mixF_out (by omega), mixF_out (by omega)]
end
