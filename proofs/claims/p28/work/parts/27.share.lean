/-! ===== the share of closed knots, and its bits ===== -/
def shaF (a b : Int32) : UInt64 := if b = 0 then FP.dconst0 else FP.ddiv (FP.i2d a) (FP.i2d b)
def itD (d : UInt64) : Nat → UInt64
  | 0 => d
  | k + 1 => FP.dmul (itD d k) 4611686018427387904
abbrev lt1 (x : UInt64) : Prop := ¬ 0 ≤ Op.cmpValue (FP.dcmp x FP.dconst1) CmpOp.g
def nD (d : UInt64) : Nat → Nat
  | 0 => 0
  | f + 1 => if lt1 (itD d (nD d f)) then nD d f + 1 else nD d f
def fracD (x : UInt64) : Int64 := FP.d2l (FP.dmul (FP.dsub x FP.dconst1) 4841369599423283200)
def expL (k : Nat) : Int64 := 1023 - Int64.ofNat k
def bitsF (d : UInt64) : Int64 := if Op.cmpValue (FP.dcmp d FP.dconst0) CmpOp.g ≤ 0 then 0 else (expL (nD d 1022) <<< ((52 : Int32).toInt64 &&& 63)) + fracD (itD d (nD d 1022))
theorem nD_up {d : UInt64} {k : Nat} (h : nD d k = k) (c : lt1 (itD d k)) : nD d (k + 1) = k + 1 := by
  show (if lt1 (itD d (nD d k)) then _ else _) = _
  rw [h, if_pos c]
theorem nD_stop {d : UInt64} {k : Nat} (h : nD d k = k) (c : ¬ lt1 (itD d k)) : ∀ f, nD d (k + f) = k
  | 0 => h
  | f + 1 => by
    show (if lt1 (itD d (nD d (k + f))) then _ else _) = _
    rw [nD_stop h c f, if_neg c]
    exact nD_stop h c f
theorem nD_at {d : UInt64} {k : Nat} (h : nD d k = k) (c : ¬ lt1 (itD d k)) {f : Nat} (hf : k ≤ f) : nD d f = k := by
  have := nD_stop h c (f - k)
  rwa [Nat.add_sub_cancel' hf] at this
theorem n64_of {r : UInt64} (h : FP.Core.dIsNaN r = false) : vf_n64 r := by
  have h1 := (FP.Core.ne_nan r).mp ((FP.Core.notNaN_iff r).mp h)
  unfold vf_n64
  rw [UInt64.le_iff_toNat_le, UInt64.toNat_and]
  have e : (0x7fffffffffffffff : UInt64).toNat = 2 ^ 63 - 1 := rfl
  rw [e, Nat.and_two_pow_sub_one_eq_mod]
  exact h1
theorem not_nan {r : UInt64} (h : ¬ FP.Core.dIsNaN r = true) : FP.Core.dIsNaN r = false := by
  cases hh : FP.Core.dIsNaN r with
  | false => rfl
  | true => exact absurd hh h
theorem val_two : FP.Core.val64 4611686018427387904 = .fin false (2 ^ 52) (-51) := by decide +kernel
theorem val_52 : FP.Core.val64 4841369599423283200 = .fin false (2 ^ 52) 0 := by decide +kernel
theorem mul_ok {x y : UInt64} (h : FP.Core.dIsNaN x = false) {c : Nat} {q : Int} (hy : FP.Core.val64 y = .fin false (c + 1) q) : FP.Core.dIsNaN (FP.dmul x y) = false := by
  refine not_nan (fun hn => ?_)
  have hx := (FP.Core.notNaN_iff x).mp h
  rcases (FP.Core.dmul_nan_iff x y).mp hn with h1 | h1 | ⟨s, h1, h2⟩ | ⟨s, h1, h2⟩
  · exact hx h1
  · rw [hy] at h1; exact absurd h1 (by simp)
  · obtain ⟨t, u, h2⟩ := h2; rw [hy] at h2; simp at h2
  · rw [hy] at h2; exact absurd h2 (by simp)
theorem itD_ok {d : UInt64} (h : FP.Core.dIsNaN d = false) : ∀ k, FP.Core.dIsNaN (itD d k) = false
  | 0 => h
  | k + 1 => mul_ok (itD_ok h k) (c := 2 ^ 52 - 1) val_two
theorem sub_ok {x : UInt64} (h : FP.Core.dIsNaN x = false) : FP.Core.dIsNaN (FP.dsub x FP.dconst1) = false := by
  refine not_nan (fun hn => ?_)
  have hx := (FP.Core.notNaN_iff x).mp h
  have h1c : FP.Core.val64 FP.dconst1 = .fin false (2 ^ 52) (-52) := FP.Core.val64_dconst1
  rcases (FP.Core.dsub_nan_iff x FP.dconst1).mp hn with h1 | h1 | ⟨s, h1, h2⟩
  · exact hx h1
  · rw [h1c] at h1; exact absurd h1 (by simp)
  · rw [h1c] at h2; exact absurd h2 (by simp)
theorem frac_ok {x : UInt64} (h : FP.Core.dIsNaN x = false) : FP.Core.dIsNaN (FP.dmul (FP.dsub x FP.dconst1) 4841369599423283200) = false := mul_ok (sub_ok h) (c := 2 ^ 52 - 1) val_52
theorem div_ok {a b : Int32} (h : b ≠ 0) : FP.Core.dIsNaN (FP.ddiv (FP.i2d a) (FP.i2d b)) = false := by
  refine not_nan (fun hn => ?_)
  have ha := FP.Core.i2d_fin a
  have hb := FP.Core.i2d_fin b
  rcases (FP.Core.ddiv_nan_iff _ _).mp hn with h1 | h1 | ⟨s, t, h1, -⟩ | ⟨-, h1⟩
  · exact ha.ne_nan h1
  · exact hb.ne_nan h1
  · exact ha.ne_inf s h1
  · exact FP.Core.i2d_ne_zero h ((FP.Core.zero_bits2 _).mp h1)
theorem sha_ok (a b : Int32) : FP.Core.dIsNaN (shaF a b) = false := by
  unfold shaF
  split
  · decide +kernel
  · exact div_ok ‹_›
theorem expL_le : ∀ k, k < 1023 → lg_cmp (expL k) 1 ≤ 0 → k = 1022 := by decide +kernel
theorem expL_gt : ∀ k, k < 1023 → ¬ lg_cmp (expL k) 1 ≤ 0 → k < 1022 := by decide +kernel
theorem expL_up : ∀ k, k < 1023 → expL k - 1 = expL (k + 1) := by decide +kernel
