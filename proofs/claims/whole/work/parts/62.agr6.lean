theorem cmp0_z {x : UInt64} {z : Nat} (h : posZ x z) : FP.dcmp x FP.dconst0 = some (compare (z : Int) 0) := by
  obtain ⟨h1, h2⟩ := posZ_z h
  have h3 : FP.Core.val64 FP.dconst0 ≠ .nan := by rw [show FP.dconst0 = FP.Core.dconst0 from rfl, FP.Core.val64_dconst0]; simp
  have h5 : FP.Core.zval FP.Core.b64 (FP.Core.val64 FP.dconst0) = 0 := FP.Core.zval64_zero
  have := FP.Core.dcmp_zval h1 h3
  rw [h2, h5] at this
  exact this
theorem sha_zero {b : Int32} (hb : 0 < b.toInt) : posZ (FP.ddiv (FP.i2d 0) (FP.i2d b)) 0 := by
  obtain ⟨cb, qb, b1, b2, b3⟩ := i2d_pos hb
  have hcb : ¬ cb = 0 := by
    intro q
    subst q
    have e0 : FP.Core.inUnits 0 qb FP.Core.b64.qmin = 0 := Nat.zero_mul _
    rw [e0] at b2
    have := Nat.two_pow_pos 1074
    omega
  have hv : FP.Core.val64 (FP.ddiv (FP.i2d 0) (FP.i2d b)) = FP.Core.quotient FP.Core.b64 (FP.Core.val64 (FP.i2d 0)) (FP.Core.val64 (FP.i2d b)) := FP.Core.val64_ddiv _ _
  have h0 : FP.Core.val64 (FP.i2d 0) = .fin false 0 FP.Core.b64.qmin := by decide +kernel
  rw [h0, b1] at hv
  have hv2 : FP.Core.val64 (FP.ddiv (FP.i2d 0) (FP.i2d b)) = FP.Core.roundRatio FP.Core.b64 false 0 cb (FP.Core.b64.qmin - qb) := by
    rw [hv]
    show (if cb = 0 then _ else FP.Core.roundRatio FP.Core.b64 (false != false) 0 cb (FP.Core.b64.qmin - qb)) = _
    rw [if_neg hcb]
    rfl
  exact ⟨0, FP.Core.b64.qmin, hv2.trans rfl, Nat.zero_mul _⟩
/-- class and reference tell the same bits of a share -/
theorem bits_eq {a b : Int32} (ha : 0 ≤ a.toInt) (hb : 0 ≤ b.toInt) : bitsF (shaF a b) = bitsM (shaF a b) 1022 ∧ (¬ Op.cmpValue (FP.dcmp (shaF a b) FP.dconst0) CmpOp.l = 0 → ¬ lt1 (itD (shaF a b) (nD (shaF a b) 1022))) := by
  have zero : ∀ d : UInt64, FP.dcmp d FP.dconst0 = some .eq → bitsF d = bitsM d 1022 ∧ (¬ Op.cmpValue (FP.dcmp d FP.dconst0) CmpOp.l = 0 → ¬ lt1 (itD d (nD d 1022))) := by
    intro d hd
    constructor
    · unfold bitsF bitsM
      rw [hd, if_pos (show Op.cmpValue (some .eq) CmpOp.g ≤ 0 by decide), if_pos (show Op.cmpValue (some .eq) CmpOp.l = 0 from rfl)]
    · intro q
      rw [hd] at q
      exact absurd rfl q
  by_cases eb : b = 0
  · have e : shaF a b = FP.dconst0 := if_pos eb
    rw [e]
    exact zero _ (by decide +kernel)
  · have e : shaF a b = FP.ddiv (FP.i2d a) (FP.i2d b) := if_neg eb
    have hb2 : 0 < b.toInt := by
      have : b.toInt ≠ 0 := fun q => eb (Int32.toInt.inj q)
      omega
    rw [e]
    by_cases ea : a = 0
    · subst ea
      refine zero _ ?_
      rw [cmp0_z (sha_zero hb2)]
      rfl
    · have ha2 : 0 < a.toInt := by
        have : a.toInt ≠ 0 := fun q => ea (Int32.toInt.inj q)
        omega
      obtain ⟨z, hz, hp⟩ := sha_pos ha2 hb2
      have hz0 : 0 < z := Nat.lt_of_lt_of_le (Nat.two_pow_pos 52) hz
      have hd : FP.dcmp (FP.ddiv (FP.i2d a) (FP.i2d b)) FP.dconst0 = some .gt := by
        rw [cmp0_z hp, FP.Core.compare_ite, if_neg (by omega), if_neg (by omega)]
      refine ⟨?_, fun _ => nD_end hp hz⟩
      unfold bitsF bitsM
      have hk := nD_le (FP.ddiv (FP.i2d a) (FP.i2d b)) 1022
      rw [hd, if_neg (show ¬ Op.cmpValue (some .gt) CmpOp.g ≤ 0 by decide), if_neg (show ¬ Op.cmpValue (some .gt) CmpOp.l = 0 by decide), exp_shl _ (by omega)]
