/-! ===== what the law draws from its ints ===== -/
def lowF (v : Int32) (n : Nat) : Int32 := (v &&& 2147483647) - (v &&& 2147483647) / nI n * nI n
theorem and_nn (v : Int32) : ¬ (v &&& 2147483647) < 0 := by
  have h1 : (v &&& 2147483647).toBitVec.toNat < 2 ^ 31 := by
    rw [Int32.toBitVec_and, BitVec.toNat_and]
    exact Nat.lt_of_le_of_lt Nat.and_le_right (by decide)
  have h2 : (v &&& 2147483647).toInt = ((v &&& 2147483647).toBitVec.toNat : Int) := BitVec.toInt_eq_toNat_of_lt (by omega)
  rw [Int32.lt_iff_toInt_lt, h2]
  have e0 : (0 : Int32).toInt = 0 := rfl
  rw [e0]
  omega
theorem nI_div {a b : Nat} (ha : a < 2 ^ 31) (hb : b < 2 ^ 31) : nI a / nI b = nI (a / b) := by
  have hq : a / b ≤ a := Nat.div_le_self a b
  apply Int32.toInt.inj
  rw [Int32.toInt_div, nI_toInt ha, nI_toInt hb, nI_toInt (Nat.lt_of_le_of_lt hq ha), ← Int.ofNat_tdiv]
  obtain ⟨q, e⟩ : ∃ q, a / b = q := ⟨_, rfl⟩
  rw [e] at hq ⊢
  exact Int.bmod_eq_of_le (by omega) (by omega)
theorem nI_mul (a b : Nat) : nI a * nI b = nI (a * b) := (Int32.ofNat_mul a b).symm
theorem lowF_rng (v : Int32) {n : Nat} (h0 : 0 < n) (h1 : n < 2 ^ 31) : ∃ k, k < n ∧ lowF v n = nI k := by
  obtain ⟨j, hj, e⟩ := nI_of (and_nn v)
  refine ⟨j % n, Nat.mod_lt _ h0, ?_⟩
  unfold lowF
  rw [e, nI_div hj h1, nI_mul]
  have hm : nI (j / n * n) + nI (j % n) = nI j := by rw [nI_add, Nat.div_add_mod']
  rw [← hm]
  exact i32_addsub _ _
theorem one_nI (k : Nat) : 1 + nI k = nI (k + 1) := by rw [Int32.add_comm]; exact nI_1 k
theorem low1 (v : Int32) {n : Nat} (h0 : 0 < n) (h1 : n < 2 ^ 31) : ∃ k, k < n ∧ 1 + lowF v n = nI (k + 1) := by
  obtain ⟨k, hk, e⟩ := lowF_rng v h0 h1
  exact ⟨k, hk, by rw [e]; exact one_nI k⟩
/-- a digit more -/
theorem num_dg {vz kz d : Nat} (hv : vz < 10 ^ kz) (hd : d < 10) : 10 * nI vz + nI d = nI (10 * vz + d) ∧ 10 * vz + d < 10 ^ (kz + 1) := by
  refine ⟨?_, ?_⟩
  · rw [show (10 : Int32) = nI 10 from rfl, nI_mul, nI_add]
  · rw [Nat.pow_succ]; omega
theorem num_end {vz kz : Nat} (hv : vz < 10 ^ kz) (hk : kz ≤ 6) : vz ≤ 999999 := by
  have : 10 ^ kz ≤ 10 ^ 6 := Nat.pow_le_pow_right (by decide) hk
  have e : 10 ^ 6 = 1000000 := by decide
  omega
theorem num_ok {v : Nat} (h1 : 1 ≤ v) (h9 : v ≤ 999999) : ¬ nI v < 1 ∧ nI v ≤ 999999 :=
  ⟨fun q => by
    have := (nI_ltI (a := v) (b := 1) (by omega) (by decide)).mp q
    omega, (nI_leI (a := v) (b := 999999) (by omega) (by decide)).mpr h9⟩
/-! ===== what holds of the class's numbers at all times, as the law asks ===== -/
def hueOK (st : Nat → Int32) : Prop := ∀ i, i < 7 → ∃ h, h < 6 ∧ st (6 + 31 * i + 0) = nI h
def conOK (st : Nat → Int32) : Prop := st 0 + st 1 = sumN (cTies st) 7 + st 2 + st 3
def sliOK (t : Nat) (st : Nat → Int32) : Prop := ∀ i, i < 7 → 0 ≤ (st (6 + 31 * i + 2)).toInt ∧ (st (6 + 31 * i + 2)).toInt ≤ (t : Int)
def pI (t : Nat) (st : Nat → Int32) : Prop := stOK st ∧ hueOK st ∧ conOK st ∧ sliOK t st
section
variable {st st2 : Nat → Int32} {i j : Nat} {num : Int32}
theorem stOK.pcE (h : stOK st) (hi : i < 7) : st (6 + 31 * i + 1) = nI (cm st i) := (h.1 i hi).1
theorem stOK.m16 (h : stOK st) (hi : i < 7) : cm st i ≤ 16 := (h.1 i hi).2
theorem z_toI : (0 : Int32).toInt = 0 := rfl
/-! a cord told by its places -/
def pwN : Nat → Int32
  | 0 => 1
  | k + 1 => pwN k * 10
def tdP (kn lo : Nat → Int32) : Nat → Int32
  | 0 => 0
  | k + 1 => tdP kn lo k + opn kn lo k * pwN k
theorem tdP_6 (kn lo : Nat → Int32) : tdP kn lo 6 = tld kn lo 6 := by
  show 0 + opn kn lo 0 * 1 + opn kn lo 1 * (1 * 10) + opn kn lo 2 * (1 * 10 * 10) + opn kn lo 3 * (1 * 10 * 10 * 10) + opn kn lo 4 * (1 * 10 * 10 * 10 * 10) + opn kn lo 5 * (1 * 10 * 10 * 10 * 10 * 10) = 10 * (10 * (10 * (10 * (10 * (10 * 0 + opn kn lo 5) + opn kn lo 4) + opn kn lo 3) + opn kn lo 2) + opn kn lo 1) + opn kn lo 0
  generalize opn kn lo 0 = a0
  generalize opn kn lo 1 = a1
  generalize opn kn lo 2 = a2
  generalize opn kn lo 3 = a3
  generalize opn kn lo 4 = a4
  generalize opn kn lo 5 = a5
  grind
theorem opn_nn (h : stOK st) (hi : i < 7) {p : Nat} (hp : p < 6) : ¬ opn (fK st i) (fL st i) p < 0 := by
  have h1 := (h.2.2 i hi).1
  have := opI_r h1 hp
  rw [Int32.lt_iff_toInt_lt, opn_i h1 hp, z_toI]
  omega
theorem opn_l9 (h : stOK st) (hi : i < 7) {p : Nat} (hp : p < 6) : ¬ 10 ≤ opn (fK st i) (fL st i) p := by
  have h1 := (h.2.2 i hi).1
  have := opI_r h1 hp
  rw [Int32.le_iff_toInt_le, opn_i h1 hp, i_10]
  omega
theorem sub_2 (a b c : Int32) : a - (b + c) = a - b - c := by grind
theorem plc_T {p : Nat} (c : st 5 - fK st i p - fL st i p ≤ 0) : placeF st i p 3 = 0 := by
  show (if 0 < st 5 - (fK st i p + fL st i p) then _ else _) = _
  rw [if_neg (fun q => by rw [sub_2] at q; exact Int32.not_lt.mpr c q)]
theorem plc_F {p : Nat} (c : ¬ st 5 - fK st i p - fL st i p ≤ 0) : placeF st i p 3 = st 5 - fK st i p - fL st i p := by
  show (if 0 < st 5 - (fK st i p + fL st i p) then _ else _) = _
  rw [if_pos (by rw [sub_2]; exact Int32.not_le.mp c), sub_2]
theorem partF_at {k : Nat} (hk : k < cm st i) (hm : cm st i ≤ 16) : partF st i (nI k) = fP st i k := by
  unfold partF
  rw [if_pos (nI_lt hk (by omega)), nI_clamp (by omega)]
theorem partF_no {k : Nat} (hk : cm st i ≤ k) (hm : k < 2 ^ 31) : partF st i (nI k) = -1 := by
  unfold partF
  rw [if_neg (nI_nlt hk hm)]
theorem part_pos (h : stOK st) (hi : i < 7) {k : Nat} (hk : k < cm st i) : ¬ fP st i k ≤ 0 := by
  have := ((h.2.2 i hi).2.1 k hk).1
  rw [Int32.le_iff_toInt_le, z_toI]
  omega
theorem told_le (h : stOK st) (hi : i < 7) : ¬ sumN (fP st i) (cm st i) < tdP (fK st i) (fL st i) 6 := by
  rw [tdP_6, Int32.lt_iff_toInt_lt]
  have h1 : (cTold st i).toInt ≤ (cParts st i).toInt := (h.2.2 i hi).2.2
  have e1 : (cTold st i).toInt = (tld (fK st i) (fL st i) 6).toInt := rfl
  have e2 : (cParts st i).toInt = (sumN (fP st i) (cm st i)).toInt := rfl
  omega
theorem lack_e : cordF st i 3 = sumN (fP st i) (cm st i) - tdP (fK st i) (fL st i) 6 := by rw [tdP_6]; rfl
theorem sli_nn {t : Nat} (h : sliOK t st) (hi : i < 7) : ¬ cordF st i 7 < 0 := by
  show ¬ st (6 + 31 * i + 2) < 0
  rw [Int32.lt_iff_toInt_lt, z_toI]
  have := (h i hi).1
  omega
/-! all cords -/
def fuW (st : Nat → Int32) : Nat → Nat
  | 0 => 0
  | k + 1 => fulN st k
theorem fuW_lt {c : Nat} (h : c ≤ 7) : fuW st c < 7 := by
  cases c with
  | zero => exact (by decide : 0 < 7)
  | succ k => have := fulN_le st k; show fulN st k < 7; omega
theorem fuW_T {c : Nat} (h : cTies st c ≤ cTies st (fuW st c)) : fuW st (c + 1) = fuW st c := by
  cases c with
  | zero => rfl
  | succ k => exact if_pos h
theorem fuW_F {c : Nat} (h : ¬ cTies st c ≤ cTies st (fuW st c)) : fuW st (c + 1) = c := by
  cases c with
  | zero => exact absurd (Int32.le_refl _) h
  | succ k => exact if_neg h
theorem lk_T {c : Nat} (h : cLack st c ≤ 0) : sumN (lackN st) c + 0 = sumN (lackN st) (c + 1) := by
  show _ = sumN (lackN st) c + (if cLack st c ≤ 0 then 0 else 1)
  rw [if_pos h]
theorem lk_F {c : Nat} (h : ¬ cLack st c ≤ 0) : sumN (lackN st) c + 1 = sumN (lackN st) (c + 1) := by
  show _ = sumN (lackN st) c + (if cLack st c ≤ 0 then 0 else 1)
  rw [if_neg h]
theorem pickN (t : Int32) {h0 : Nat} (hh : h0 < 100) : ∀ m, m ≤ 100 → sumN (fun h => if nI h0 = nI h then t else 0) m = if h0 < m then t else 0
  | 0, _ => (if_neg (Nat.not_lt_zero _)).symm
  | m + 1, hm => by
    show sumN (fun h => if nI h0 = nI h then t else 0) m + (if nI h0 = nI m then t else 0) = _
    rw [pickN t hh m (by omega)]
    by_cases e : h0 = m
    · subst e
      rw [if_neg (Nat.lt_irrefl _), if_pos rfl, if_pos (Nat.lt_succ_self _)]
      exact Int32.zero_add _
    · rw [if_neg (c := nI h0 = nI m) (fun q => e ((nI_eq (by omega) (by omega)).mp q))]
      by_cases l : h0 < m
      · rw [if_pos l, if_pos (by omega)]; exact Int32.add_zero _
      · rw [if_neg l, if_neg (by omega)]; exact Int32.add_zero _
theorem sumN_z : ∀ m, sumN (fun _ => 0) m = 0
  | 0 => rfl
  | m + 1 => by show sumN (fun _ => 0) m + 0 = 0; rw [sumN_z m]; rfl
theorem sumN_swap (F : Nat → Nat → Int32) (m : Nat) : ∀ n, sumN (fun h => sumN (F h) m) n = sumN (fun k => sumN (fun h => F h k) n) m
  | 0 => (sumN_z m).symm
  | n + 1 => by
    show sumN (fun h => sumN (F h) m) n + sumN (F n) m = sumN (fun k => sumN (fun h => F h k) n + F n k) m
    rw [sumN_swap F m n, sumN_add]
theorem hues_all (h : hueOK st) : sumN (fun z => sumN (hueN st (nI z)) 7) 6 = sumN (cTold st) 7 := by
  rw [sumN_swap (fun z => hueN st (nI z)) 7 6]
  refine sumN_congr (fun k hk => ?_)
  obtain ⟨h0, hh, e⟩ := h k hk
  show sumN (fun z => if st (6 + 31 * k + 0) = nI z then cTold st k else 0) 6 = _
  rw [e, pickN (cTold st k) (by omega) 6 (by decide), if_pos hh]
theorem hue_rng {z : Nat} (h : z < 6) : ¬ nI z < 0 ∧ nI z < 6 := ⟨nI_pos (by omega), nI_lt (b := 6) h (by decide)⟩
theorem kn_sub (st : Nat → Int32) : sumN (cTies st) 7 - sumN (allL st) 7 = sumN (allK st) 7 := by
  rw [← ties_all]
  exact addsub _ _
theorem sh_T (c : ¬ sumN (cTies st) 7 = sumN (allL st) 7) : sumN (cTies st) 7 - sumN (allL st) 7 ≠ 0 ∧ shaF (10 * sumN (allL st) 7) (sumN (allK st) 7) = FP.ddiv (FP.i2d (10 * sumN (allL st) 7)) (FP.i2d (sumN (cTies st) 7 - sumN (allL st) 7)) := by
  have h1 : sumN (cTies st) 7 - sumN (allL st) 7 ≠ 0 := fun q => c (by
    have h2 : ∀ a b : Int32, a - b = 0 → a = b := by intro a b q; grind
    exact h2 _ _ q)
  refine ⟨h1, ?_⟩
  unfold shaF
  rw [← kn_sub, if_neg h1]
theorem sh_F (c : sumN (cTies st) 7 = sumN (allL st) 7) : shaF (10 * sumN (allL st) 7) (sumN (allK st) 7) = FP.dconst0 := by
  unfold shaF
  rw [← kn_sub, c]
  exact if_pos (by grind)
theorem cmp_rf {x y : UInt64} (e : x = y) (h : FP.Core.dIsNaN x = false) : Op.cmpValue (FP.dcmp x y) CmpOp.l = 0 := by
  subst e
  have h1 := (FP.Core.notNaN_iff x).mp h
  have h2 : FP.dcmp x x = some (compare (FP.Core.dkey x) (FP.Core.dkey x)) := FP.Core.dcmp_key h1 h1
  have h3 : compare (FP.Core.dkey x) (FP.Core.dkey x) = .eq := by rw [Int.compare_eq_eq]
  rw [h2, h3]
  rfl
/-! sets -/
theorem set_rng (h : stOK st) {m : Nat} (hm : m < 128) : 0 ≤ (setT (cTold st) (nI m) 7).toInt ∧ (setT (cTold st) (nI m) 7).toInt ≤ 6999993 := by
  rw [setT_int h.tl hm 7 (Nat.le_refl _)]
  have := tI_rng h.tl m 7 (Nat.le_refl _)
  omega
theorem sum_ok {x : Int32} (h0 : 0 ≤ x.toInt) (h9 : x.toInt ≤ 6999993) (c : ¬ x = 0) : ¬ x < 1 ∧ x ≤ 9999999 := by
  have h2 : x.toInt ≠ 0 := fun q => c (Int32.toInt.inj q)
  have e1 : (1 : Int32).toInt = 1 := rfl
  have e9 : (9999999 : Int32).toInt = 9999999 := rfl
  rw [Int32.lt_iff_toInt_lt, Int32.le_iff_toInt_le, e1, e9]
  omega
theorem sum_ok2 {k : Nat} (h : k < 2000) : ¬ nI (k + 1) < 1 ∧ nI (k + 1) ≤ 9999999 :=
  ⟨fun q => by
    have := (nI_ltI (a := k + 1) (b := 1) (by omega) (by decide)).mp q
    omega, (nI_leI (a := k + 1) (b := 9999999) (by omega) (by decide)).mpr (by omega)⟩
theorem set_T {m k : Nat} (c : ¬ bitI (nI m) (nI k) = 1) : setT (cTold st) (nI m) k + 0 = setT (cTold st) (nI m) (k + 1) := by
  show _ = if bitI (nI m) (nI k) = 1 then _ else _
  rw [if_neg c]
  exact Int32.add_zero _
theorem set_F {m k : Nat} (c : bitI (nI m) (nI k) = 1) : setT (cTold st) (nI m) k + cTold st k = setT (cTold st) (nI m) (k + 1) := by
  show _ = if bitI (nI m) (nI k) = 1 then _ else _
  rw [if_pos c]
theorem sf_up {sm : Int32} {k : Nat} (hk : k < 127) : sfF st sm (k + 1) = if setT (cTold st) (nI (k + 1)) 7 = sm ∧ (sfF st sm k = -1 ∨ mnF (nI (k + 1)) < mnF (sfF st sm k)) then nI (k + 1) else sfF st sm k := by
  have ht : setT (cTold st) (nI (k + 1)) 7 = tbF st (nI (k + 1)) := tb_eq st (by omega) 7 (Nat.le_refl _)
  rw [ht]
  rfl
theorem sf_a {sm : Int32} {k : Nat} (hk : k < 127) (c : ¬ setT (cTold st) (nI (k + 1)) 7 = sm) : sfF st sm k = sfF st sm (k + 1) := by
  rw [sf_up hk, if_neg (fun q => c q.1)]
theorem sf_b {sm : Int32} {k : Nat} (hk : k < 127) (c : setT (cTold st) (nI (k + 1)) 7 = sm) (c2 : sfF st sm k = -1) : nI (k + 1) = sfF st sm (k + 1) := by
  rw [sf_up hk, if_pos ⟨c, Or.inl c2⟩]
theorem sf_c {sm : Int32} {k : Nat} (hk : k < 127) (c : setT (cTold st) (nI (k + 1)) 7 = sm) (c2 : ¬ sfF st sm k = -1) (c3 : mnF (sfF st sm k) ≤ mnF (nI (k + 1))) : sfF st sm k = sfF st sm (k + 1) := by
  rw [sf_up hk, if_neg (fun q => q.2.elim c2 (fun q2 => Int32.not_lt.mpr c3 q2))]
theorem sf_d {sm : Int32} {k : Nat} (hk : k < 127) (c : setT (cTold st) (nI (k + 1)) 7 = sm) (c3 : ¬ mnF (sfF st sm k) ≤ mnF (nI (k + 1))) : nI (k + 1) = sfF st sm (k + 1) := by
  rw [sf_up hk, if_pos ⟨c, Or.inr (Int32.not_le.mp c3)⟩]
theorem for_is (h : stOK st) {sm : Int32} (h1 : ¬ sm < 1) (h2 : sm ≤ 9999999) (w : Nat) : forF (cTold st) sm w = sfF st sm 127 := for_sf h.tl h1 h2 w
end
