theorem i2d_pos {v : Int32} (h : 0 < v.toInt) : ∃ (c : Nat) (q : Int), FP.Core.val64 (FP.i2d v) = .fin false c q ∧ 2 ^ 1074 ≤ FP.Core.inUnits c q FP.Core.b64.qmin ∧ FP.Core.inUnits c q FP.Core.b64.qmin < 2 ^ 1107 := by
  obtain ⟨c, q, h1⟩ := FP.Core.l2d_shape v.toInt64
  have e : FP.i2d v = FP.Core.l2d v.toInt64 := FP.Core.i2d_l2d v
  rw [← e, Int32.toInt_toInt64, show decide (v.toInt < 0) = false from decide_eq_false (by omega)] at h1
  have hn : FP.Core.val64 (FP.i2d v) ≠ .nan := by rw [h1]; simp
  have hz := FP.Core.zmag_bits hn
  rw [h1] at hz
  have hz2 : FP.Core.inUnits c q FP.Core.b64.qmin = FP.Core.unitsOf FP.Core.b64 ((FP.i2d v).toNat % 2 ^ 63) := hz
  have hb := FP.Core.i2d_big (v := v) (by omega)
  have hm := FP.Core.i2d_mag v
  have tl : FP.Core.b64.tails = 2 ^ 52 := FP.Core.tails_b64
  have s1 := FP.Core.unitsOf_start (f := FP.Core.b64) (K := 1023) (by decide)
  have s2 := FP.Core.unitsOf_start (f := FP.Core.b64) (K := 1056) (by decide)
  rw [tl] at s1 s2
  have l1 : FP.Core.unitsOf FP.Core.b64 (1023 * 2 ^ 52) ≤ FP.Core.unitsOf FP.Core.b64 ((FP.i2d v).toNat % 2 ^ 63) := FP.Core.unitsOf_le_iff.mpr hb.1
  have l2 : FP.Core.unitsOf FP.Core.b64 ((FP.i2d v).toNat % 2 ^ 63) < FP.Core.unitsOf FP.Core.b64 (1056 * 2 ^ 52) := FP.Core.unitsOf_lt_iff.mpr hm
  refine ⟨c, q, h1, ?_, ?_⟩
  · rw [hz2]
    refine Nat.le_trans (Nat.le_of_eq ?_) l1
    rw [s1, ← Nat.pow_add]
  · rw [hz2]
    refine Nat.lt_of_lt_of_le l2 (Nat.le_of_eq ?_)
    rw [s2, ← Nat.pow_add]
theorem sha_pos {a b : Int32} (ha : 0 < a.toInt) (hb : 0 < b.toInt) : ∃ z, 2 ^ 52 ≤ z ∧ posZ (FP.ddiv (FP.i2d a) (FP.i2d b)) z := by
  obtain ⟨ca, qa, a1, a2, a3⟩ := i2d_pos ha
  obtain ⟨cb, qb, b1, b2, b3⟩ := i2d_pos hb
  have fa := FP.Core.val64_fits (FP.i2d a)
  have fb := FP.Core.val64_fits (FP.i2d b)
  rw [a1] at fa
  rw [b1] at fb
  have qm : FP.Core.b64.qmin = -1074 := FP.Core.qmin_b64
  have qx : FP.Core.b64.qmax = 971 := by decide
  obtain ⟨-, fa1, fa2, -⟩ := fa
  obtain ⟨-, fb1, fb2, -⟩ := fb
  have hcb : 0 < cb := by
    rcases Nat.eq_zero_or_pos cb with q | q
    · subst q
      have e0 : FP.Core.inUnits 0 qb FP.Core.b64.qmin = 0 := Nat.zero_mul _
      rw [e0] at b2
      have := Nat.two_pow_pos 1074
      omega
    · exact q
  have hv : FP.Core.val64 (FP.ddiv (FP.i2d a) (FP.i2d b)) = FP.Core.quotient FP.Core.b64 (FP.Core.val64 (FP.i2d a)) (FP.Core.val64 (FP.i2d b)) := FP.Core.val64_ddiv _ _
  rw [a1, b1] at hv
  have hv2 : FP.Core.val64 (FP.ddiv (FP.i2d a) (FP.i2d b)) = FP.Core.roundRatio FP.Core.b64 false ca cb (qa - qb) := by
    rw [hv]
    show (if cb = 0 then _ else FP.Core.roundRatio FP.Core.b64 (false != false) ca cb (qa - qb)) = _
    rw [if_neg (by omega)]
    rfl
  have hfin : FP.Core.DFin (FP.ddiv (FP.i2d a) (FP.i2d b)) := by
    have h1 := FP.Core.ddiv_mag (a := FP.i2d a) (b := FP.i2d b) (K := 1056) (L := 1023) (FP.Core.i2d_mag a) (FP.Core.i2d_big (v := b) (by omega)).1 (FP.Core.i2d_big (v := b) (by omega)).2 (by decide) (by decide)
    exact FP.Core.fin_of_lt (K := 1057) h1 (by decide)
  have hV : FP.Core.fits FP.Core.b64 (.fin false (2 ^ 52) FP.Core.b64.qmin) := ⟨by decide, by decide, by decide, Or.inl rfl⟩
  have hge := FP.Core.zmag_roundRatio_ge FP.Core.good_b64 (s := false) (A := ca) (B := cb) (e := qa - qb) (e0 := -4000) hcb hV (by omega) (by omega) (by
    have e1 : FP.Core.zmag FP.Core.b64 (.fin false (2 ^ 52) FP.Core.b64.qmin) = 2 ^ 52 := by decide
    rw [e1]
    show 2 ^ 52 * 2 ^ (FP.Core.b64.qmin - -4000).toNat * cb ≤ ca * 2 ^ (qa - qb - -4000).toNat
    have e2 : (FP.Core.b64.qmin - -4000).toNat = 2926 := by omega
    rw [e2]
    have a2' : 2 ^ 1074 ≤ ca * 2 ^ (qa - FP.Core.b64.qmin).toNat := a2
    have b3' : cb * 2 ^ (qb - FP.Core.b64.qmin).toNat < 2 ^ 1107 := b3
    refine Nat.le_of_mul_le_mul_right (c := 2 ^ (qb - FP.Core.b64.qmin).toNat) ?_ (Nat.two_pow_pos _)
    have r1 : ca * 2 ^ (qa - qb - -4000).toNat * 2 ^ (qb - FP.Core.b64.qmin).toNat = ca * 2 ^ (qa - FP.Core.b64.qmin).toNat * 2 ^ 4000 := by
      rw [Nat.mul_assoc, Nat.mul_assoc, ← Nat.pow_add, ← Nat.pow_add]
      have : (qa - qb - -4000).toNat + (qb - FP.Core.b64.qmin).toNat = (qa - FP.Core.b64.qmin).toNat + 4000 := by omega
      rw [this]
    have r2 : 2 ^ 52 * 2 ^ 2926 * cb * 2 ^ (qb - FP.Core.b64.qmin).toNat = 2 ^ 52 * 2 ^ 2926 * (cb * 2 ^ (qb - FP.Core.b64.qmin).toNat) := Nat.mul_assoc _ _ _
    rw [r1, r2]
    have s1 : 2 ^ 52 * 2 ^ 2926 * (cb * 2 ^ (qb - FP.Core.b64.qmin).toNat) ≤ 2 ^ 52 * 2 ^ 2926 * 2 ^ 1107 := Nat.mul_le_mul_left _ (Nat.le_of_lt b3')
    have s2 : 2 ^ 1074 * 2 ^ 4000 ≤ ca * 2 ^ (qa - FP.Core.b64.qmin).toNat * 2 ^ 4000 := Nat.mul_le_mul_right _ a2'
    have s3 : 2 ^ 52 * 2 ^ 2926 * 2 ^ 1107 ≤ 2 ^ 1074 * 2 ^ 4000 := by
      rw [← Nat.pow_add, ← Nat.pow_add, ← Nat.pow_add]
      exact Nat.pow_le_pow_right (by decide) (by decide)
    exact Nat.le_trans s1 (Nat.le_trans s3 s2))
  rw [← hv2] at hge
  obtain ⟨s, c, q, hf⟩ := hfin
  have hs : s = false := by
    have := FP.Core.sgn_roundRatio FP.Core.b64 false ca cb (qa - qb)
    rw [← hv2, hf] at this
    exact this
  subst hs
  refine ⟨FP.Core.inUnits c q FP.Core.b64.qmin, ?_, c, q, hf, rfl⟩
  rw [hf] at hge
  have e1 : FP.Core.zmag FP.Core.b64 (.fin false (2 ^ 52) FP.Core.b64.qmin) = 2 ^ 52 := by decide
  rw [e1] at hge
  exact hge
