/-! ===== what holds of the class's numbers at all times: the herd ===== -/
def cdOK (st : Nat → Int32) (i : Nat) : Prop := plOK (fK st i) (fL st i) ∧ (∀ k, k < cm st i → 1 ≤ (fP st i k).toInt ∧ (fP st i k).toInt ≤ 999999) ∧ (cTold st i).toInt ≤ (cParts st i).toInt
def stOK (st : Nat → Int32) : Prop := pcOK st ∧ (20 ≤ (st 5).toInt ∧ (st 5).toInt ≤ 99) ∧ ∀ i, i < 7 → cdOK st i
section
variable {st st2 : Nat → Int32} {i : Nat} {num : Int32}
theorem cdOK.eq (h : cdOK st i) (hm : cm st2 i = cm st i) (hK : ∀ p, p < 6 → fK st2 i p = fK st i p) (hL : ∀ p, p < 6 → fL st2 i p = fL st i p) (hP : ∀ k, k < cm st i → fP st2 i k = fP st i k) : cdOK st2 i := by
  obtain ⟨h1, h2, h3⟩ := h
  refine ⟨h1.congr hK hL, fun k hk => ?_, ?_⟩
  · rw [hm] at hk
    rw [hP k hk]
    exact h2 k hk
  · have e1 : cTold st2 i = cTold st i := tld_congr hK hL 6
    have e2 : cParts st2 i = cParts st i := by
      show sumN (fP st2 i) (cm st2 i) = sumN (fP st i) (cm st i)
      rw [hm]
      exact sumN_congr hP
    rw [e1, e2]
    exact h3
theorem cdOK.sm (h : cdOK st i) (hm : cm st i ≤ 16) (e : ∀ j, 1 ≤ j → j < 31 → j ≠ 2 → st2 (6 + 31 * i + j) = st (6 + 31 * i + j)) : cdOK st2 i :=
  h.eq (congrArg Int32.toNatClampNeg (e 1 (by decide) (by decide) (by decide))) (fun p hp => e (19 + p) (by omega) (by omega) (by omega)) (fun p hp => e (25 + p) (by omega) (by omega) (by omega)) (fun k hk => e (3 + k) (by omega) (by omega) (by omega))
theorem stOK.pc (h : stOK st) : pcOK st := h.1
theorem stOK.u4 (h : stOK st) (v : Int32) : stOK (upd st 4 v) :=
  ⟨pcOK_up h.1 _ (by decide), h.2.1, fun i hi => (h.2.2 i hi).sm (h.1 i hi).2 (fun j _ _ _ => if_neg (by omega))⟩
theorem stOK.hue (h : stOK st) (hi : i < 7) (v : Int32) : stOK (upd st (6 + 31 * i + 0) v) :=
  ⟨pcOK_eq h.1 (fun i2 h2 => if_neg (by omega)), by show 20 ≤ (if 5 = _ then _ else _ : Int32).toInt ∧ (if 5 = _ then _ else _ : Int32).toInt ≤ 99; rw [if_neg (by omega)]; exact h.2.1, fun i2 h2 => (h.2.2 i2 h2).sm (h.1 i2 h2).2 (fun j _ _ _ => if_neg (by omega))⟩
theorem stOK.room (h : stOK st) {v : Int32} (h1 : 20 ≤ v.toInt) (h2 : v.toInt ≤ 99) : stOK (upd st 5 v) :=
  ⟨pcOK_eq h.1 (fun i2 h2 => if_neg (by omega)), by show 20 ≤ (if 5 = 5 then v else _ : Int32).toInt ∧ (if 5 = 5 then v else _ : Int32).toInt ≤ 99; rw [if_pos rfl]; exact ⟨h1, h2⟩, fun i2 h2 => (h.2.2 i2 h2).sm (h.1 i2 h2).2 (fun j _ _ _ => if_neg (by omega))⟩
theorem cRef_of (c : cRop st i num = 0) : cRef st i num = 0 := by
  have h : rop (fK st i) (fL st i) (cm st i) num (st 5) = 0 := c
  unfold rop at h
  rw [if_pos (rop_lt c)] at h
  exact h
theorem cRef_z (c : cRef st i num = 0) : rsn (fK st i) (fL st i) num (st 5) 6 = 0 := by
  unfold cRef refuse at c
  split at c
  · exact c
  · exact absurd c (by decide)
theorem parts_i (h : cdOK st i) (hm : cm st i ≤ 16) : 0 ≤ (cParts st i).toInt ∧ (cParts st i).toInt ≤ 999999 * (cm st i : Int) := by
  have hs := sumN_b (f := fP st i) (B := 999999) (cm st i) (fun k hk => ⟨by have := (h.2.1 k hk).1; omega, (h.2.1 k hk).2⟩) (by omega)
  have e : cParts st i = sumN (fP st i) (cm st i) := rfl
  rw [e]
  omega
theorem told_i (h : cdOK st i) : 0 ≤ (cTold st i).toInt ∧ (cTold st i).toInt ≤ 999999 := tld_r h.1
theorem stOK.tf (h : stOK st) (hi : i < 7) (c : cRop st i num = 0) (h1 : 1 ≤ num.toInt) (h9 : num.toInt ≤ 999999) : stOK (tieF st i num) := by
  have hm := rop_lt c
  have hz := cRef_z (cRef_of c)
  obtain ⟨hpc, h5, hc⟩ := h
  refine ⟨pcOK_tieF hpc hm hi, by rw [tieF_5]; exact h5, fun i2 h2 => ?_⟩
  by_cases e : i2 = i
  · subst e
    have hcd := hc i2 hi
    obtain ⟨g1, g2, g3⟩ := hc i2 hi
    have gT := pl_tie g1 (by omega) h9 h5.2 hz
    have gt := tld_tie g1 (by omega) h9 gT
    refine ⟨gT.congr (fun p hp => tieF_K hm hp) (fun p hp => tieF_L hm hp), fun k hk => ?_, ?_⟩
    · rw [tieF_cm hm] at hk
      have e1 : fP (tieF st i2 num) i2 k = upd (fP st i2) (cm st i2) num k := tieF_p (by omega) hm
      rw [e1]
      unfold upd
      split
      · omega
      · exact g2 k (by omega)
    · have e1 : cTold (tieF st i2 num) i2 = tld (tK (fK st i2) (fL st i2) num 6) (tL (fK st i2) (fL st i2) num 6) 6 := tld_congr (fun p hp => tieF_K hm hp) (fun p hp => tieF_L hm hp) 6
      have e3 : ∀ k, k < 16 → fP (tieF st i2 num) i2 k = upd (fP st i2) (cm st i2) num k := fun k hk => tieF_p hk hm
      have e2 : cParts (tieF st i2 num) i2 = cParts st i2 + num := by
        show sumN (fP (tieF st i2 num) i2) (cm (tieF st i2 num) i2) = sumN (fP st i2) (cm st i2) + num
        rw [tieF_cm hm]
        show sumN (fP (tieF st i2 num) i2) (cm st i2) + fP (tieF st i2 num) i2 (cm st i2) = _
        rw [e3 _ hm, upd_at, sumN_congr (fun k hk => (e3 k (by omega)).trans (if_neg (by omega)))]
      have hs := parts_i hcd (by omega)
      have ht : (cTold st i2).toInt = (tld (fK st i2) (fL st i2) 6).toInt := rfl
      rw [e1, e2, i_add (by omega) (by omega)]
      omega
  · exact (hc i2 h2).sm (hpc i2 h2).2 (fun j _ hj _ => tieF_o e hj hm)
theorem stOK.ts (h : stOK st) (hi : i < 7) (h1 : 1 ≤ num.toInt) (h9 : num.toInt ≤ 999999) : stOK (tieS st i num) := by
  unfold tieS
  split
  · exact h.tf hi ‹_› h1 h9
  · exact h.u4 _
theorem told_1 (h : stOK st) (hi : i < 7) (c : ¬ cTold st i = 0) : 1 ≤ (cTold st i).toInt ∧ (cTold st i).toInt ≤ 999999 := by
  have := told_i (h.2.2 i hi)
  have h2 : (cTold st i).toInt ≠ 0 := fun q => c (Int32.toInt.inj q)
  omega
theorem stOK.as (h : stOK st) {j : Nat} (hi : i < 7) (hj : j < 7) : stOK (addS st i j) := by
  unfold addS
  split
  · exact h
  · have := told_1 h hi ‹_›
    exact h.ts hj this.1 this.2
theorem stOK.kf (h : stOK st) (hi : i < 7) (c : cRef st i num = 0) (h0 : 0 ≤ num.toInt) (h9 : num.toInt ≤ 999999) (hp : (cTold st i).toInt + num.toInt ≤ (cParts st i).toInt) : stOK (knitF st i num) := by
  have hz := cRef_z c
  obtain ⟨hpc, h5, hc⟩ := h
  have e5 : knitF st i num 5 = st 5 := knitF_c (by decide) (by decide) (by decide)
  refine ⟨pcOK_eq hpc (fun i2 h2 => knitF_lo (by decide)), by rw [e5]; exact h5, fun i2 h2 => ?_⟩
  by_cases e : i2 = i
  · subst e
    obtain ⟨g1, g2, g3⟩ := hc i2 hi
    have gT := pl_tie g1 h0 h9 h5.2 hz
    have gt := tld_tie g1 h0 h9 gT
    have k1 : ∀ p, p < 6 → fK (knitF st i2 num) i2 p = tK (fK st i2) (fL st i2) num 6 p := fun p hp => knitF_K hp
    have k2 : ∀ p, p < 6 → fL (knitF st i2 num) i2 p = tL (fK st i2) (fL st i2) num 6 p := fun p hp => knitF_L hp
    have em : cm (knitF st i2 num) i2 = cm st i2 := cmOf (knitF_lo (by decide))
    have eP : ∀ k, k < cm st i2 → fP (knitF st i2 num) i2 k = fP st i2 k := fun k hk => knitF_h (by have := (hpc i2 hi).2; omega)
    refine ⟨gT.congr k1 k2, fun k hk => ?_, ?_⟩
    · rw [em] at hk
      rw [eP k hk]
      exact g2 k hk
    · have e1 : cTold (knitF st i2 num) i2 = tld (tK (fK st i2) (fL st i2) num 6) (tL (fK st i2) (fL st i2) num 6) 6 := tld_congr k1 k2 6
      have e2 : cParts (knitF st i2 num) i2 = cParts st i2 := by
        show sumN (fP (knitF st i2 num) i2) (cm (knitF st i2 num) i2) = sumN (fP st i2) (cm st i2)
        rw [em]
        exact sumN_congr eP
      have ht : (cTold st i2).toInt = (tld (fK st i2) (fL st i2) 6).toInt := rfl
      rw [e1, e2]
      omega
  · exact (hc i2 h2).sm (hpc i2 h2).2 (fun j _ hj _ => knitF_o e hj)
theorem lack_i (h : stOK st) (hi : i < 7) : (cLack st i).toInt = (cParts st i).toInt - (cTold st i).toInt := by
  have h1 := parts_i (h.2.2 i hi) (h.1 i hi).2
  have h2 := told_i (h.2.2 i hi)
  have h3 := (h.1 i hi).2
  exact i_sub (by omega) (by omega)
theorem stOK.ms (h : stOK st) (hi : i < 7) : stOK (mendS st i) := by
  unfold mendS
  split
  · exact h
  · split
    · rename_i c0 c
      have h1 := parts_i (h.2.2 i hi) (h.1 i hi).2
      have h2 := told_i (h.2.2 i hi)
      have h3 := (h.1 i hi).2
      have h4 := lack_i h hi
      have h5 := (h.2.2 i hi).2.2
      have h6 : cTold st i + cLack st i ≤ 999999 := by
        have c2 : refuse (fK st i) (fL st i) (cLack st i) (st 5) = 0 := c
        unfold refuse at c2
        split at c2
        · assumption
        · exact absurd c2 (by decide)
      rw [Int32.le_iff_toInt_le, i_add (by omega) (by omega)] at h6
      have e9 : (999999 : Int32).toInt = 999999 := rfl
      rw [e9] at h6
      exact h.kf hi c (by omega) (by omega) (by omega)
    · exact h.u4 _
theorem slipF_j {jz j : Nat} (h2 : j ≠ 2) (hj : j ≠ 19 + jz) : slipF st i jz (6 + 31 * i + j) = st (6 + 31 * i + j) := by
  unfold slipF
  rw [if_neg (by omega), if_neg (by omega), if_neg (by omega)]
theorem stOK.ss (h : stOK st) {jz : Nat} (hi : i < 7) (hj : jz < 6) : stOK (slipS st i jz) := by
  unfold slipS
  split
  · exact h.u4 _
  · rename_i c
    obtain ⟨hpc, h5, hc⟩ := h
    refine ⟨pcOK_eq hpc (fun i2 h2 => ?_), ?_, fun i2 h2 => ?_⟩
    · unfold slipF
      rw [if_neg (by omega), if_neg (by omega), if_neg (by omega)]
    · show 20 ≤ (slipF st i jz 5).toInt ∧ (slipF st i jz 5).toInt ≤ 99
      have e5 : slipF st i jz 5 = st 5 := by
        unfold slipF
        rw [if_neg (by omega), if_neg (by omega), if_neg (by omega)]
      rw [e5]
      exact h5
    · by_cases e : i2 = i
      · subst e
        obtain ⟨g1, g2, g3⟩ := hc i2 hi
        have o1 := opn_i g1 hj
        have o2 : (opn (fK st i2) (fL st i2) jz).toInt ≠ 0 := fun q => c (Int32.toInt.inj q)
        have o3 := opI_r g1 hj
        have eo : opI (fK st i2) (fL st i2) jz = (fK st i2 jz).toInt - 10 * (fL st i2 jz).toInt := rfl
        obtain ⟨p1, p2, p3, p4, p5⟩ := g1 jz hj
        have kj : (fK (slipF st i2 jz) i2 jz).toInt = (fK st i2 jz).toInt - 1 := by
          have : fK (slipF st i2 jz) i2 jz = fK st i2 jz - 1 := if_pos rfl
          have e1 : (1 : Int32).toInt = 1 := rfl
          rw [this, i_sub (by omega) (by omega), e1]
        have ko : ∀ p, p < 6 → p ≠ jz → fK (slipF st i2 jz) i2 p = fK st i2 p := fun p hp hne => slipF_j (by omega) (by omega)
        have lo : ∀ p, p < 6 → fL (slipF st i2 jz) i2 p = fL st i2 p := fun p hp => slipF_j (by omega) (by omega)
        have em : cm (slipF st i2 jz) i2 = cm st i2 := cmOf (slipF_j (by decide) (by omega))
        have eP : ∀ k, k < cm st i2 → fP (slipF st i2 jz) i2 k = fP st i2 k := fun k hk => slipF_j (by omega) (by have := (hpc i2 hi).2; omega)
        have gT : plOK (fK (slipF st i2 jz) i2) (fL (slipF st i2 jz) i2) := by
          intro p hp
          by_cases q : p = jz
          · subst q
            rw [kj, lo p hp]
            omega
          · rw [ko p hp q, lo p hp]
            exact g1 p hp
        refine ⟨gT, fun k hk => ?_, ?_⟩
        · rw [em] at hk
          rw [eP k hk]
          exact g2 k hk
        · have e2 : cParts (slipF st i2 jz) i2 = cParts st i2 := by
            show sumN (fP (slipF st i2 jz) i2) (cm (slipF st i2 jz) i2) = sumN (fP st i2) (cm st i2)
            rw [em]
            exact sumN_congr eP
          have t1 := tld_i g1
          have t2 := tld_i gT
          have le : ∀ p, p < 6 → opI (fK (slipF st i2 jz) i2) (fL (slipF st i2 jz) i2) p ≤ opI (fK st i2) (fL st i2) p := by
            intro p hp
            show (fK (slipF st i2 jz) i2 p).toInt - 10 * (fL (slipF st i2 jz) i2 p).toInt ≤ (fK st i2 p).toInt - 10 * (fL st i2 p).toInt
            rw [lo p hp]
            by_cases q : p = jz
            · subst q; rw [kj]; omega
            · rw [ko p hp q]; omega
          have l0 := le 0 (by decide)
          have l1 := le 1 (by decide)
          have l2 := le 2 (by decide)
          have l3 := le 3 (by decide)
          have l4 := le 4 (by decide)
          have l5 := le 5 (by decide)
          have ht : (cTold st i2).toInt = (tld (fK st i2) (fL st i2) 6).toInt := rfl
          have ht2 : (cTold (slipF st i2 jz) i2).toInt = (tld (fK (slipF st i2 jz) i2) (fL (slipF st i2 jz) i2) 6).toInt := rfl
          rw [e2, ht2, t2]
          rw [ht, t1] at g3
          omega
      · refine (hc i2 h2).sm (hpc i2 h2).2 (fun j _ hj _ => ?_)
        unfold slipF
        rw [if_neg (by omega), if_neg (by omega), if_neg (by omega)]
theorem stOK.rn (h : stOK st) (hi : i < 7) : stOK (renF st i) := by
  obtain ⟨hpc, h5, hc⟩ := h
  have e5 : renF st i 5 = st 5 := by
    unfold renF
    rw [if_neg (by omega), if_neg (by omega), if_neg (by omega)]
  refine ⟨pcOK_renF hpc, by rw [e5]; exact h5, fun i2 h2 => ?_⟩
  by_cases e : i2 = i
  · subst e
    have z : ∀ j, 19 ≤ j → j < 31 → renF st i2 (6 + 31 * i2 + j) = 0 := fun j h1 h2 => by
      unfold renF
      rw [if_neg (by omega), if_neg (by omega), if_pos (by omega)]
    have em : cm (renF st i2) i2 = 0 := congrArg Int32.toNatClampNeg (show renF st i2 (6 + 31 * i2 + 1) = 0 by unfold renF; rw [if_neg (by omega), if_pos (Or.inl rfl)])
    have k1 : ∀ p, p < 6 → fK (renF st i2) i2 p = 0 := fun p hp => z (19 + p) (by omega) (by omega)
    have k2 : ∀ p, p < 6 → fL (renF st i2) i2 p = 0 := fun p hp => z (25 + p) (by omega) (by omega)
    refine ⟨fun p hp => ?_, fun k hk => ?_, ?_⟩
    · rw [k1 p hp, k2 p hp]; decide
    · rw [em] at hk; exact absurd hk (Nat.not_lt_zero _)
    · have e1 : cTold (renF st i2) i2 = 0 := (tld_congr (kn' := fun _ => 0) (lo' := fun _ => 0) k1 k2 6).trans (by decide)
      have e2 : cParts (renF st i2) i2 = 0 := by
        show sumN (fP (renF st i2) i2) (cm (renF st i2) i2) = 0
        rw [em]
        rfl
      rw [e1, e2]
      exact Int.le_refl _
  · refine (hc i2 h2).sm (hpc i2 h2).2 (fun j _ hj _ => ?_)
    unfold renF
    rw [if_neg (by omega), if_neg (by omega), if_neg (by omega)]
theorem stOK_0 : stOK st0 := by
  have z : ∀ x, 6 ≤ x → st0 x = 0 := fun x hx => if_neg (by omega)
  have em : ∀ i, cm st0 i = 0 := fun i => congrArg Int32.toNatClampNeg (z (6 + 31 * i + 1) (by omega))
  refine ⟨fun i hi => ?_, by decide, fun i hi => ⟨fun p hp => ?_, fun k hk => ?_, ?_⟩⟩
  · rw [em i, z _ (by omega)]; decide
  · have k1 : fK st0 i p = 0 := z _ (by omega)
    have k2 : fL st0 i p = 0 := z _ (by omega)
    rw [k1, k2]; decide
  · rw [em i] at hk; exact absurd hk (Nat.not_lt_zero _)
  · have e1 : cTold st0 i = 0 := (tld_congr (kn' := fun _ => 0) (lo' := fun _ => 0) (fun p hp => z _ (by omega)) (fun p hp => z _ (by omega)) 6).trans (by decide)
    have e2 : cParts st0 i = 0 := by
      show sumN (fP st0 i) (cm st0 i) = 0
      rw [em i]
      rfl
    rw [e1, e2]
    exact Int.le_refl _
/-! what follows from it -/
theorem stOK.tl (h : stOK st) : tlOK (cTold st) := fun i hi => told_i (h.2.2 i hi)
theorem kl_b (h : stOK st) {k : Nat} (hk : k < 7) : (0 ≤ (allK st k).toInt ∧ (allK st k).toInt ≤ 594) ∧ (0 ≤ (allL st k).toInt ∧ (allL st k).toInt ≤ 594) := by
  have h1 := sumN_b (f := fK st k) (B := 99) 6 (fun p hp => by obtain ⟨h1, h2, h3, h4, h5⟩ := (h.2.2 k hk).1 p hp; omega) (by decide)
  have h2 := sumN_b (f := fL st k) (B := 99) 6 (fun p hp => by obtain ⟨h1, h2, h3, h4, h5⟩ := (h.2.2 k hk).1 p hp; omega) (by decide)
  exact ⟨h1, h2⟩
theorem stOK.nk (h : stOK st) : 0 ≤ (sumN (allK st) 7).toInt := (sumN_b (B := 594) 7 (fun k hk => (kl_b h hk).1) (by decide)).1
theorem stOK.nl (h : stOK st) : 0 ≤ (10 * sumN (allL st) 7).toInt := by
  have h1 := sumN_b (f := allL st) (B := 594) 7 (fun k hk => (kl_b h hk).2) (by decide)
  rw [i_m10 (by omega) (by omega)]
  omega
theorem tieR_i (h : stOK st) (hi : i < 7) (c : cRop st i num = 0) (h0 : 0 ≤ num.toInt) (h9 : num.toInt ≤ 999999) : 10 ≤ tieR st i num := by
  have hs := sumN_b (f := mL (fK st i) (fL st i) num) (B := 1) 6 (fun p hp => by
    obtain ⟨a1, a2, a3, a4, a5, a6, a7⟩ := lay_i (num := num) (h.2.2 i hi).1 h0 h9 hp
    omega) (by decide)
  unfold tieR
  rw [if_pos c, Int32.le_iff_toInt_le, i_add (by rw [i_10]; omega) (by rw [i_10]; omega), i_10]
  omega
theorem num_i {v : Int32} (h1 : ¬ v < 1) (h2 : v ≤ 999999) : 1 ≤ v.toInt ∧ v.toInt ≤ 999999 := by
  rw [Int32.lt_iff_toInt_lt] at h1
  rw [Int32.le_iff_toInt_le] at h2
  have e1 : (1 : Int32).toInt = 1 := rfl
  have e2 : (999999 : Int32).toInt = 999999 := rfl
  omega
end
