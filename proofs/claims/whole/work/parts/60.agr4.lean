/-! ===== the bits of the share: doubling is exact ===== -/
def posZ (x : UInt64) (z : Nat) : Prop := ∃ (c : Nat) (q : Int), FP.Core.val64 x = .fin false c q ∧ FP.Core.inUnits c q FP.Core.b64.qmin = z
theorem posZ_dbl {x : UInt64} {z : Nat} (h : posZ x z) (hz : z < FP.Core.one64) : posZ (FP.dmul x 4611686018427387904) (2 * z) := by
  obtain ⟨c, q, h1, h2⟩ := h
  have hf := FP.Core.val64_fits x
  rw [h1] at hf
  obtain ⟨f1, f2, f3, f4⟩ := hf
  have qm : FP.Core.b64.qmin = -1074 := FP.Core.qmin_b64
  have qx : FP.Core.b64.qmax = 971 := by decide
  have tl : FP.Core.b64.tails = 2 ^ 52 := FP.Core.tails_b64
  have hq : q ≤ 0 := by
    rcases f4 with f4 | f4
    · omega
    · apply Classical.byContradiction
      intro hn
      have e1 : 2 ^ 1074 ≤ 2 ^ (q - FP.Core.b64.qmin).toNat := Nat.pow_le_pow_right (by decide) (by omega)
      have e2 : c * 2 ^ (q - FP.Core.b64.qmin).toNat = z := h2
      have e3 : 1 * 2 ^ 1074 ≤ c * 2 ^ (q - FP.Core.b64.qmin).toNat := Nat.mul_le_mul (by have := Nat.two_pow_pos 52; omega) e1
      have e4 : FP.Core.one64 = 2 ^ 1074 := rfl
      rw [e2, Nat.one_mul, ← e4] at e3
      omega
  have hv : FP.Core.val64 (FP.dmul x 4611686018427387904) = FP.Core.round FP.Core.b64 (FP.Core.exactProduct (FP.Core.val64 x) (FP.Core.val64 4611686018427387904)) := FP.Core.val64_dmul x 4611686018427387904
  rw [h1, val_two] at hv
  have hv2 : FP.Core.val64 (FP.dmul x 4611686018427387904) = FP.Core.roundRatio FP.Core.b64 false (c * 2 ^ 52) 1 (q + -51) := hv
  have hc : FP.Core.roundRatio FP.Core.b64 false (c * 2 ^ 52) 1 (q + -51) = FP.Core.roundRatio FP.Core.b64 false c 1 (q + 1) := by
    refine FP.Core.roundRatio_congr (by decide) (by decide) ?_
    have e1 : (q + -51 - (q + 1)).toNat = 0 := by omega
    have e2 : (q + 1 - (q + -51)).toNat = 52 := by omega
    rw [e1, e2, Nat.pow_zero, Nat.mul_one, Nat.mul_one, Nat.mul_one]
  obtain ⟨c', q', g1, g2⟩ := FP.Core.round_exact FP.Core.good_b64 false f1 (show FP.Core.b64.qmin ≤ q + 1 by omega) (show q + 1 ≤ FP.Core.b64.qmax by omega)
  refine ⟨c', q', ?_, ?_⟩
  · rw [hv2, hc]; exact g1
  · rw [g2, ← h2]
    show c * 2 ^ (q + 1 - FP.Core.b64.qmin).toNat = 2 * (c * 2 ^ (q - FP.Core.b64.qmin).toNat)
    have e1 : (q + 1 - FP.Core.b64.qmin).toNat = (q - FP.Core.b64.qmin).toNat + 1 := by omega
    rw [e1, Nat.pow_succ, ← Nat.mul_assoc, Nat.mul_comm 2]
theorem posZ_z {x : UInt64} {z : Nat} (h : posZ x z) : FP.Core.val64 x ≠ .nan ∧ FP.Core.zval FP.Core.b64 (FP.Core.val64 x) = (z : Int) := by
  obtain ⟨c, q, h1, h2⟩ := h
  rw [h1, ← h2]
  exact ⟨by simp, rfl⟩
theorem one_z : FP.Core.zval FP.Core.b64 (FP.Core.val64 FP.dconst1) = (FP.Core.one64 : Int) := by decide +kernel
theorem lt1_z {x : UInt64} {z : Nat} (h : posZ x z) : lt1 x ↔ z < FP.Core.one64 := by
  obtain ⟨h1, h2⟩ := posZ_z h
  have h3 : FP.Core.val64 FP.dconst1 ≠ .nan := by rw [show FP.dconst1 = FP.Core.dconst1 from rfl, FP.Core.val64_dconst1]; simp
  have h4 : FP.dcmp x FP.dconst1 = some (compare (z : Int) (FP.Core.one64 : Int)) := by
    have := FP.Core.dcmp_zval h1 h3
    rw [h2, one_z] at this
    exact this
  unfold lt1
  rw [h4, FP.Core.compare_ite]
  by_cases c : (z : Int) < (FP.Core.one64 : Int)
  · rw [if_pos c]
    exact ⟨fun _ => by omega, fun _ => by decide⟩
  · rw [if_neg c]
    refine ⟨fun q => ?_, fun q => by omega⟩
    exfalso
    apply q
    split <;> decide
theorem posZ_it {d : UInt64} {z : Nat} (h : posZ d z) : ∀ k, (∀ j, j < k → lt1 (itD d j)) → posZ (itD d k) (2 ^ k * z)
  | 0, _ => by rw [Nat.pow_zero, Nat.one_mul]; exact h
  | k + 1, hk => by
    have ih := posZ_it h k (fun j hj => hk j (by omega))
    have h1 := (lt1_z ih).mp (hk k (Nat.lt_succ_self _))
    have := posZ_dbl ih h1
    rw [show 2 ^ (k + 1) * z = 2 * (2 ^ k * z) by rw [Nat.pow_succ]; rw [Nat.mul_comm (2 ^ k) 2, Nat.mul_assoc]]
    exact this
theorem nD_all {d : UInt64} : ∀ k, nD d k = k → ∀ j, j < k → lt1 (itD d j)
  | 0, _, j, hj => absurd hj (Nat.not_lt_zero _)
  | k + 1, h, j, hj => by
    have h1 : (if lt1 (itD d (nD d k)) then nD d k + 1 else nD d k) = k + 1 := h
    have h2 := nD_le d k
    by_cases c : lt1 (itD d (nD d k))
    · rw [if_pos c] at h1
      have h3 : nD d k = k := by omega
      rw [h3] at c
      rcases Nat.lt_or_ge j k with q | q
      · exact nD_all k h3 j q
      · have : j = k := by omega
        rw [this]; exact c
    · rw [if_neg c] at h1; omega
/-- the doubling comes to an end -/
theorem nD_end {d : UInt64} {z : Nat} (h : posZ d z) (hz : 2 ^ 52 ≤ z) : ¬ lt1 (itD d (nD d 1022)) := by
  intro c
  have e : ∀ f, f ≤ 1022 → nD d f = f := by
    intro f
    induction f with
    | zero => intro _; rfl
    | succ f ih =>
      intro hf
      have h1 := ih (by omega)
      apply Classical.byContradiction
      intro hn
      have c1 : ¬ lt1 (itD d f) := fun q => hn (nD_up h1 q)
      have := nD_at h1 c1 (f := 1022) (by omega)
      rw [this] at c
      exact c1 c
  have e1 := e 1022 (Nat.le_refl _)
  rw [e1] at c
  have h2 := posZ_it h 1022 (nD_all 1022 e1)
  have h3 := (lt1_z h2).mp c
  have h4 : 2 ^ 1022 * 2 ^ 52 ≤ 2 ^ 1022 * z := Nat.mul_le_mul_left _ hz
  have h5 : 2 ^ 1022 * 2 ^ 52 = FP.Core.one64 := by rw [← Nat.pow_add]; rfl
  omega
theorem exp_shl : ∀ k, k < 1023 → expL k <<< ((52 : Int32).toInt64 &&& 63) = expL k * 4503599627370496 := by decide +kernel
