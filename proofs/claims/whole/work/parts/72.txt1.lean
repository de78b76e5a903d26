/-! ===== class and reference do the same orders ===== -/
section
variable {st s : Nat → Int32} {i j : Nat} {num : Int32}
theorem i_ne1 (x : Int32) : ¬ x + 1 = x := fun q => by
  have h : x + 1 - x = x - x := by rw [q]
  have h1 : x + 1 - x = 1 := by grind
  have h2 : x - x = 0 := by grind
  rw [h1, h2] at h
  exact absurd h (by decide)
theorem tie4 : tieS st i num 4 = st 4 ↔ cRop st i num = 0 := by
  unfold tieS
  by_cases c : cRop st i num = 0
  · rw [if_pos c]
    exact ⟨fun _ => c, fun _ => (tieF_c (by decide)).trans (knitF_c (by decide) (by decide) (by decide))⟩
  · rw [if_neg c]
    exact ⟨fun q => absurd q (by rw [upd4_4]; exact i_ne1 _), fun q => absurd q c⟩
theorem tieD (h : stOK st) (hi : i < 7) (h1 : 1 ≤ num.toInt) (h9 : num.toInt ≤ 999999) : tieS st i num 4 = st 4 ↔ ¬ tieR st i num < 10 := by
  rw [tie4]
  by_cases c : cRop st i num = 0
  · exact ⟨fun _ => Int32.not_lt.mpr (tieR_i h hi c (by omega) h9), fun _ => c⟩
  · have e : tieR st i num = cRop st i num := if_neg c
    exact ⟨fun q => absurd q c, fun q => absurd (by rw [e]; exact rop_lt10 _ _ _ _ _) q⟩
theorem tieR_0 (h : stOK st) (hi : i < 7) (h1 : 1 ≤ num.toInt) (h9 : num.toInt ≤ 999999) : ¬ tieR st i num = 0 := fun z => by
  by_cases c : cRop st i num = 0
  · have := tieR_i h hi c (by omega) h9
    rw [z] at this
    exact absurd this (by decide)
  · rw [show tieR st i num = cRop st i num from if_neg c] at z
    exact c z
theorem addD (h : stOK st) (hi : i < 7) (hj : j < 7) : addS st i j 4 = st 4 ↔ (addR st i j = 0 ∨ ¬ addR st i j < 10) := by
  unfold addS addR
  by_cases c : cTold st i = 0
  · rw [if_pos c, if_pos c]
    exact ⟨fun _ => Or.inl rfl, fun _ => rfl⟩
  · rw [if_neg c, if_neg c]
    have t := told_1 h hi c
    rw [tieD h hj t.1 t.2]
    exact ⟨Or.inr, fun z => z.elim (fun z => absurd z (tieR_0 h hj t.1 t.2)) id⟩
theorem slD (h : stOK st) (hi : i < 7) (hj : j < 6) : slipS st i j 4 = st 4 ↔ ¬ slipR st i j = -1 := by
  unfold slipS slipR
  by_cases c : opn (fK st i) (fL st i) j = 0
  · rw [if_pos c, if_pos c]
    exact ⟨fun q => absurd q (by rw [upd4_4]; exact i_ne1 _), fun q => absurd rfl q⟩
  · rw [if_neg c, if_neg c]
    have e4 : slipF st i j 4 = st 4 := by unfold slipF; rw [if_neg (by omega), if_neg (by omega), if_neg (by omega)]
    refine ⟨fun _ q => ?_, fun _ => e4⟩
    obtain ⟨p1, p2, p3, p4, p5⟩ := (h.2.2 i hi).1 j hj
    have o1 := opn_i (h.2.2 i hi).1 hj
    have o2 : (opn (fK st i) (fL st i) j).toInt ≠ 0 := fun q => c (Int32.toInt.inj q)
    have eo : opI (fK st i) (fL st i) j = (fK st i j).toInt - 10 * (fL st i j).toInt := rfl
    have e1 : (1 : Int32).toInt = 1 := rfl
    have e2 : (10 * fL st i j).toInt = 10 * (fL st i j).toInt := i_m10 (by omega) (by omega)
    have e3 : (fK st i j - 1).toInt = (fK st i j).toInt - 1 := by rw [i_sub (by omega) (by omega), e1]
    have e5 : (fK st i j - 1 - 10 * fL st i j).toInt = (fK st i j).toInt - 1 - 10 * (fL st i j).toInt := by rw [i_sub (by omega) (by omega), e3, e2]
    rw [q] at e5
    have e6 : (-1 : Int32).toInt = -1 := rfl
    omega
end
section
variable {st s bu tx : Nat → Int32} {ln p b : Nat} {t : RS}
theorem ord_ag (h : stOK st) (hE : sE st s) (hO : rdO tx ln p b t) (hB : boR tx ln p = .inl b) : sE (ordN st t) (oS tx ln p b s) ∧ stOK (ordN st t) ∧ (ordN st t 4 = st 4 ↔ oD tx ln p b s = 1) := by
  obtain ⟨o1, o2, o3⟩ := boR_ok hB
  have hi : oI tx ln p < 7 := (dgNat (b := 6) o1 (by decide)).2
  obtain ⟨h3, hc, hk, hv⟩ := hO
  have ec : t.2.2.1.toNatClampNeg = oI tx ln p := by rw [hc]
  rcases hv with ⟨v1, v2, v3, v4, v5, v6, v7⟩ | ⟨v1, v2⟩ | ⟨v1, v2⟩
  · have e1 : ordN st t = tieS st (oI tx ln p) t.2.2.2.2 := by
      unfold ordN ordX
      rw [hk, v1, if_pos rfl, ec]
    have e2 : oS tx ln p b s = tieS s (oI tx ln p) t.2.2.2.2 := by
      show ordM s (chF tx ln (p + 1)) _ _ _ = _
      unfold ordM
      rw [v1, if_neg (by decide), if_neg (by decide), v4]
    have e3 : oD tx ln p b s = if tieR s (oI tx ln p) t.2.2.2.2 < 10 then 0 else 1 := by
      show doneI s (chF tx ln (p + 1)) _ _ _ = _
      unfold doneI
      rw [v1, if_neg (by decide), if_neg (by decide), v4]
    rw [e1, e2, e3]
    refine ⟨hE.ts hi _, h.ts hi v6 v7, ?_⟩
    rw [tieD h hi v6 v7, hE.tR hi]
    by_cases c : tieR s (oI tx ln p) t.2.2.2.2 < 10
    · rw [if_pos c]; exact ⟨fun q => absurd c q, fun q => absurd q (by decide)⟩
    · rw [if_neg c]; exact ⟨fun _ => rfl, fun _ => c⟩
  · have hj : oI tx ln (p + 2) < 7 := (dgNat (b := 6) (o2 v1) (by decide)).2
    have ev : t.2.2.2.2.toNatClampNeg = oI tx ln (p + 2) := by rw [v2]
    have e1 : ordN st t = addS st (oI tx ln p) (oI tx ln (p + 2)) := by
      unfold ordN ordX
      rw [hk, v1, if_neg (by decide), if_pos rfl, ec, ev]
    have e2 : oS tx ln p b s = addS s (oI tx ln p) (oI tx ln (p + 2)) := by
      show ordM s (chF tx ln (p + 1)) _ _ _ = _
      unfold ordM
      rw [v1, if_pos rfl]
    have e3 : oD tx ln p b s = if addR s (oI tx ln p) (oI tx ln (p + 2)) = 0 ∨ ¬ addR s (oI tx ln p) (oI tx ln (p + 2)) < 10 then 1 else 0 := by
      show doneI s (chF tx ln (p + 1)) _ _ _ = _
      unfold doneI
      rw [v1, if_pos rfl]
    rw [e1, e2, e3]
    refine ⟨hE.as hi hj, h.as hi hj, ?_⟩
    rw [addD h hi hj, hE.aR hi hj]
    by_cases c : addR s (oI tx ln p) (oI tx ln (p + 2)) = 0 ∨ ¬ addR s (oI tx ln p) (oI tx ln (p + 2)) < 10
    · rw [if_pos c]; exact ⟨fun _ => rfl, fun _ => c⟩
    · rw [if_neg c]; exact ⟨fun q => absurd q c, fun q => absurd q (by decide)⟩
  · have hj : oI tx ln (p + 2) < 6 := (dgNat (b := 5) (o3 v1) (by decide)).2
    have ev : t.2.2.2.2.toNatClampNeg = oI tx ln (p + 2) := by rw [v2]
    have e1 : ordN st t = slipS st (oI tx ln p) (oI tx ln (p + 2)) := by
      unfold ordN ordX
      rw [hk, v1, if_neg (by decide), if_neg (by decide), ec, ev]
    have e2 : oS tx ln p b s = slipS s (oI tx ln p) (oI tx ln (p + 2)) := by
      show ordM s (chF tx ln (p + 1)) _ _ _ = _
      unfold ordM
      rw [v1, if_neg (by decide), if_pos rfl]
    have e3 : oD tx ln p b s = if slipR s (oI tx ln p) (oI tx ln (p + 2)) = -1 then 0 else 1 := by
      show doneI s (chF tx ln (p + 1)) _ _ _ = _
      unfold doneI
      rw [v1, if_neg (by decide), if_pos rfl]
    rw [e1, e2, e3]
    refine ⟨hE.ss hi hj, h.ss hi hj, ?_⟩
    rw [slD h hi hj, hE.sR hi hj]
    by_cases c : slipR s (oI tx ln p) (oI tx ln (p + 2)) = -1
    · rw [if_pos c]; exact ⟨fun q => absurd c q, fun q => absurd q (by decide)⟩
    · rw [if_neg c]; exact ⟨fun _ => rfl, fun _ => c⟩
theorem rn_eq (hbt : ∀ k, k < ln → bu k = tx k) (hall : errN bu rs0 ln = ln) (h3 : (rdEnd bu rs0 ln).1 = 3) : ∀ (f p n : Nat) (st2 s2 : Nat → Int32) (t : RS), stOK st2 → sE st2 s2 → atR bu p t → t.1 = 0 → ln - p < f → p ≤ ln → doSt bu rs0 ln st p = (st2, n, false) → (doSt bu rs0 ln st (ln + 1)).2.1 = n + (rnF tx ln f p s2).2 ∧ sE (doSt bu rs0 ln st (ln + 1)).1 (rnF tx ln f p s2).1 ∧ stOK (doSt bu rs0 ln st (ln + 1)).1
  | 0, p, n, st2, s2, t, _, _, _, _, hf, _, _ => absurd hf (Nat.not_lt_zero _)
  | f + 1, p, n, st2, s2, t, hst, hE, h, h0, hf, hp, hd => by
    have hpl : p < ln := by
      rcases Nat.lt_or_ge p ln with q | q
      · exact q
      · exfalso
        have e : p = ln := by omega
        rw [e] at h
        rw [h.2, h0] at h3
        exact absurd h3 (by decide)
    cases hB : boR tx ln p with
    | inr e => exact absurd ⟨hall, h3⟩ (rd_bad hbt h h0 hp hB).2.2
    | inl b =>
      obtain ⟨b1, b2, t3, b3, b4⟩ := rd_ord hbt h h0 hB
      have b5 := boR_le hB
      obtain ⟨g1, g2, g3⟩ := ord_ag hst hE b4 hB
      have hR : rdEnd bu rs0 b = t3 := b3.2
      have step : ∀ d, p + d ≤ b → doSt bu rs0 ln st (p + d) = (st2, n, false) := by
        intro d
        induction d with
        | zero => intro _; exact hd
        | succ d ih =>
          intro hdb
          have i1 := ih (by omega)
          have i2 := b2 (p + d) (by omega) (by omega)
          exact (doSt_c (fun q => q.elim (fun q => by omega) i2)).trans i1
      have hs : doSt bu rs0 ln st b = (st2, n, false) := by
        have := step (b - p) (by omega)
        rwa [show p + (b - p) = b by omega] at this
      have ho : b = ln ∨ bu b = 59 := by
        by_cases e : b = ln
        · exact Or.inl e
        · refine Or.inr ?_
          have hb : b < ln := by omega
          rw [hbt b hb]
          apply Classical.byContradiction
          intro q
          have := (rd_behind hbt b3 b4 hb).2 q
          omega
      rw [rnF_b hpl hB]
      by_cases c : oD tx ln p b s2 = 1
      · rw [if_pos c]
        have d1 : doSt bu rs0 ln st (b + 1) = (ordN st2 t3, n + 1, false) := by
          have := doSt_a (bu := bu) (s := rs0) (ln := ln) (k := b) (st := st) (by rw [hs]) ho (by rw [hs, hR]; exact g3.mpr c)
          rw [this, hs, hR]
        by_cases e : b = ln
        · rw [e] at d1
          rw [d1, rnF_end (by omega)]
          exact ⟨rfl, g1, g2⟩
        · have hb : b < ln := by omega
          obtain ⟨u, u1, u2⟩ := (rd_behind hbt b3 b4 hb).1 (by rw [← hbt b hb]; exact ho.resolve_left e)
          have ih := rn_eq hbt hall h3 f (b + 1) (n + 1) (ordN st2 t3) (oS tx ln p b s2) u g2 g1 u1 u2 (by omega) (by omega) d1
          refine ⟨?_, ih.2.1, ih.2.2⟩
          rw [ih.1]
          show n + 1 + _ = n + (_ + 1)
          omega
      · rw [if_neg c]
        have d1 : doSt bu rs0 ln st (b + 1) = (ordN st2 t3, n, true) := by
          have := doSt_b (bu := bu) (s := rs0) (ln := ln) (k := b) (st := st) (by rw [hs]) ho (by rw [hs, hR]; exact fun q => c (g3.mp q))
          rw [this, hs, hR]
        have d2 : doSt bu rs0 ln st (ln + 1) = doSt bu rs0 ln st (b + 1) := by
          have := doSt_stop (bu := bu) (s := rs0) (ln := ln) (k := b + 1) (st := st) (by rw [d1]) (ln - b)
          rwa [show b + 1 + (ln - b) = ln + 1 by omega] at this
        rw [d2, d1]
        exact ⟨rfl, g1, g2⟩
theorem run_eq (hbt : ∀ k, k < ln → bu k = tx k) (hall : errN bu rs0 ln = ln) (h3 : (rdEnd bu rs0 ln).1 = 3) (h : stOK st) (hE : sE st s) : (doSt bu rs0 ln st (ln + 1)).2.1 = (rnF tx ln (ln + 1) 0 s).2 ∧ sE (doSt bu rs0 ln st (ln + 1)).1 (rnF tx ln (ln + 1) 0 s).1 ∧ stOK (doSt bu rs0 ln st (ln + 1)).1 := by
  have := rn_eq (st := st) hbt hall h3 (ln + 1) 0 0 st s rs0 h hE atR_0 rfl (by omega) (Nat.zero_le _) rfl
  rw [Nat.zero_add] at this
  exact this
end
