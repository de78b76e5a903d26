/-! ===== the counts of parts stay within bounds ===== -/
theorem pcOK_eq {st st2 : Nat → Int32} (h : pcOK st) (e : ∀ i, i < 7 → st2 (6 + 31 * i + 1) = st (6 + 31 * i + 1)) : pcOK st2 := by
  intro i hi
  unfold cm
  rw [e i hi]
  exact h i hi
theorem knitF_lo {st : Nat → Int32} {i : Nat} {num : Int32} {i2 j : Nat} (hj : j < 19) : knitF st i num (6 + 31 * i2 + j) = st (6 + 31 * i2 + j) := by
  unfold knitF
  rw [if_neg (by omega), if_neg (by omega), if_neg (by omega), if_neg (by omega)]
theorem pcOK_up {st : Nat → Int32} (h : pcOK st) (v : Int32) {x : Nat} (hx : x < 6) : pcOK (upd st x v) := pcOK_eq h (fun i hi => by unfold upd; rw [if_neg (by omega)])
theorem pcOK_tieF {st : Nat → Int32} {i : Nat} {num : Int32} (h : pcOK st) (hm : cm st i < 16) (hi : i < 7) : pcOK (tieF st i num) := by
  intro i2 h2
  by_cases e : i2 = i
  · subst e
    have e1 : tieF st i2 num (6 + 31 * i2 + 1) = nI (cm st i2 + 1) := if_pos rfl
    unfold cm
    rw [e1, nI_clamp (by omega)]
    exact ⟨rfl, by show cm st i2 + 1 ≤ 16; omega⟩
  · have e1 : tieF st i num (6 + 31 * i2 + 1) = st (6 + 31 * i2 + 1) := by
      unfold tieF
      rw [if_neg (by omega), if_neg (by omega)]
      exact knitF_lo (by decide)
    unfold cm
    rw [e1]
    exact h i2 h2
theorem pcOK_tieS {st : Nat → Int32} {i : Nat} {num : Int32} (h : pcOK st) (hi : i < 7) : pcOK (tieS st i num) := by
  unfold tieS
  split
  · exact pcOK_tieF h (rop_lt ‹_›) hi
  · exact pcOK_up h _ (by decide)
theorem pcOK_addS {st : Nat → Int32} {i j : Nat} (h : pcOK st) (hj : j < 7) : pcOK (addS st i j) := by
  unfold addS
  split
  · exact h
  · exact pcOK_tieS h hj
theorem pcOK_slipS {st : Nat → Int32} {i p : Nat} (h : pcOK st) (hp : p < 6) : pcOK (slipS st i p) := by
  unfold slipS
  split
  · exact pcOK_up h _ (by decide)
  · refine pcOK_eq h (fun i2 h2 => ?_)
    unfold slipF
    rw [if_neg (by omega), if_neg (by omega), if_neg (by omega)]
theorem pcOK_mendS {st : Nat → Int32} {i : Nat} (h : pcOK st) : pcOK (mendS st i) := by
  unfold mendS
  split
  · exact h
  · split
    · exact pcOK_eq h (fun i2 h2 => knitF_lo (by decide))
    · exact pcOK_up h _ (by decide)
theorem pcOK_renF {st : Nat → Int32} {i : Nat} (h : pcOK st) : pcOK (renF st i) := by
  intro i2 h2
  by_cases e : i2 = i
  · subst e
    have e1 : renF st i2 (6 + 31 * i2 + 1) = 0 := by unfold renF; rw [if_neg (by omega), if_pos (Or.inl rfl)]
    unfold cm
    rw [e1]
    exact ⟨rfl, by decide⟩
  · have e1 : renF st i (6 + 31 * i2 + 1) = st (6 + 31 * i2 + 1) := by unfold renF; rw [if_neg (by omega), if_neg (by omega), if_neg (by omega)]
    unfold cm
    rw [e1]
    exact h i2 h2
/-! ===== the reader over a text ===== -/
def rdNext (s : RS) (c : Int32) : RS := (rdStep s c).getD s
def rdEnd (bu : Nat → Int32) (s : RS) : Nat → RS
  | 0 => s
  | k + 1 => rdNext (rdEnd bu s k) (bu k)
def errN (bu : Nat → Int32) (s : RS) : Nat → Nat
  | 0 => 0
  | k + 1 => if errN bu s k = k then (if (rdStep (rdEnd bu s k) (bu k)).isSome then k + 1 else k) else errN bu s k
theorem errN_le (bu : Nat → Int32) (s : RS) : ∀ k, errN bu s k ≤ k
  | 0 => Nat.le_refl _
  | k + 1 => by
    show (if _ then _ else _) ≤ _
    split
    · split
      · exact Nat.le_refl _
      · exact Nat.le_succ _
    · exact Nat.le_succ_of_le (errN_le bu s k)
theorem errN_all {bu : Nat → Int32} {s : RS} {n : Nat} : ∀ {k : Nat}, errN bu s (n + k) = n + k → errN bu s n = n
  | 0, h => h
  | k + 1, h => by
    have h1 : (if errN bu s (n + k) = n + k then (if (rdStep (rdEnd bu s (n + k)) (bu (n + k))).isSome then n + k + 1 else n + k) else errN bu s (n + k)) = n + (k + 1) := h
    by_cases c : errN bu s (n + k) = n + k
    · exact errN_all c
    · rw [if_neg c] at h1
      have := errN_le bu s (n + k)
      omega
theorem errN_at {bu : Nat → Int32} {s : RS} {n k : Nat} (h : errN bu s n = n) (hk : k ≤ n) : errN bu s k = k := by
  obtain ⟨d, rfl⟩ := Nat.le.dest hk
  exact errN_all h
theorem errN_some {bu : Nat → Int32} {s : RS} {n k : Nat} (h : errN bu s n = n) (hk : k < n) : (rdStep (rdEnd bu s k) (bu k)).isSome = true := by
  have h1 : (if errN bu s k = k then (if (rdStep (rdEnd bu s k) (bu k)).isSome then k + 1 else k) else errN bu s k) = k + 1 := errN_at h hk
  rw [if_pos (errN_at h (Nat.le_of_lt hk))] at h1
  by_cases c : (rdStep (rdEnd bu s k) (bu k)).isSome = true
  · exact c
  · rw [if_neg c] at h1; omega
theorem errN_yes {bu : Nat → Int32} {s : RS} {k : Nat} (h : errN bu s k = k) (c : (rdStep (rdEnd bu s k) (bu k)).isSome = true) : errN bu s (k + 1) = k + 1 := by
  show (if _ then _ else _) = _
  rw [if_pos h, if_pos c]
theorem errN_no {bu : Nat → Int32} {s : RS} {k : Nat} (h : errN bu s k = k) (c : rdStep (rdEnd bu s k) (bu k) = none) : ∀ f, errN bu s (k + (f + 1)) = k
  | 0 => by
    show (if _ then _ else _) = _
    rw [if_pos h, if_neg (by rw [c]; decide)]
  | f + 1 => by
    show (if errN bu s (k + (f + 1)) = k + (f + 1) then _ else errN bu s (k + (f + 1))) = _
    rw [errN_no h c f, if_neg (by omega)]
theorem rdPost.next {cy : Nat → ClassId} {K : Nat} {ad : Nat → Nat} {n : Nat} {s : RS} {c r : Int32} {g1 : Nat → va_E} (h : rdPost cy K ad n s (rdStep s c) r g1) : isRs cy K ad g1 n (rdNext s c) ∧ (r = 0 → rdStep s c = none) ∧ (r ≠ 0 → (rdStep s c).isSome = true) := by
  unfold rdNext
  rcases h with ⟨s', e, rfl, h⟩ | ⟨e, rfl, h⟩
  · rw [e]; exact ⟨h, fun q => absurd q (by decide), fun _ => rfl⟩
  · rw [e]; exact ⟨h, fun _ => rfl, fun q => absurd rfl q⟩
abbrev cOK (s : RS) : Prop := 0 ≤ s.2.2.1 ∧ s.2.2.1 < 7
abbrev kOK (s : RS) : Prop := s.2.2.2.1 = 43 ∨ s.2.2.2.1 = 62 ∨ s.2.2.2.1 = 126
abbrev vOK (s : RS) : Prop := s.2.2.2.1 = 43 ∨ (s.2.2.2.1 = 62 ∧ 0 ≤ s.2.2.2.2 ∧ s.2.2.2.2 < 7 ∧ s.2.2.2.2 ≠ s.2.2.1) ∨ (s.2.2.2.1 = 126 ∧ 0 ≤ s.2.2.2.2 ∧ s.2.2.2.2 < 6)
def rdOK (s : RS) : Prop := s.1 = 0 ∨ (s.1 = 1 ∧ cOK s) ∨ (s.1 = 2 ∧ cOK s ∧ kOK s) ∨ (s.1 = 3 ∧ cOK s ∧ kOK s ∧ vOK s)
theorem rdOK.st {s : RS} (h : rdOK s) : s.1 = 0 ∨ s.1 = 1 ∨ s.1 = 2 ∨ s.1 = 3 := by
  rcases h with h | ⟨h, -⟩ | ⟨h, -⟩ | ⟨h, -⟩
  · exact Or.inl h
  · exact Or.inr (Or.inl h)
  · exact Or.inr (Or.inr (Or.inl h))
  · exact Or.inr (Or.inr (Or.inr h))
theorem rdOK_next {s : RS} (h : rdOK s) (c : Int32) : rdOK (rdNext s c) := by
  unfold rdNext
  cases e : rdStep s c with
  | none => exact h
  | some t =>
    show rdOK t
    unfold rdStep at e
    rcases h with h | ⟨h, hc⟩ | ⟨h, hc, hk⟩ | ⟨h, hc, hk, hv⟩
    · rw [if_pos h] at e
      split at e
      · injection e with e; subst e; exact Or.inr (Or.inl ⟨rfl, ‹_›⟩)
      · exact absurd e (by simp)
    · rw [if_neg (by rw [h]; decide), if_pos h] at e
      split at e
      · injection e with e; subst e; exact Or.inr (Or.inr (Or.inl ⟨rfl, hc, ‹_›⟩))
      · exact absurd e (by simp)
    · rw [if_neg (by rw [h]; decide), if_neg (by rw [h]; decide), if_pos h] at e
      split at e
      · rename_i hm
        injection e with e; subst e
        refine Or.inr (Or.inr (Or.inr ⟨rfl, hc, hk, ?_⟩))
        rcases hm with hm | ⟨-, h1, h2, h3, h4⟩ | ⟨h1, h2, h3, h4⟩
        · exact Or.inl hm.1
        · exact Or.inr (Or.inl ⟨h1, h2, h3, h4⟩)
        · refine Or.inr (Or.inr ⟨?_, h3, h4⟩)
          rcases hk with hk | hk | hk
          · exact absurd hk h1
          · exact absurd hk h2
          · exact hk
      · exact absurd e (by simp)
    · rw [if_neg (by rw [h]; decide), if_neg (by rw [h]; decide), if_neg (by rw [h]; decide)] at e
      split at e
      · injection e with e; subst e; exact Or.inl rfl
      · split at e
        · rename_i hq
          injection e with e; subst e
          exact Or.inr (Or.inr (Or.inr ⟨h, hc, hk, Or.inl hq.1⟩))
        · exact absurd e (by simp)
theorem rdOK_end {bu : Nat → Int32} {s : RS} (h : rdOK s) : ∀ k, rdOK (rdEnd bu s k)
  | 0 => h
  | k + 1 => rdOK_next (rdOK_end h k) _
/-- between the orders stands a reader behind one -/
theorem rd_59 {s : RS} (h : rdOK s) (c : (rdStep s 59).isSome = true) : s.1 = 3 := by
  unfold rdStep at c
  rcases h with h | ⟨h, hc⟩ | ⟨h, hc, hk⟩ | ⟨h, -⟩
  · rw [if_pos h, if_neg (by decide)] at c; exact absurd c (by decide)
  · rw [if_neg (by rw [h]; decide), if_pos h, if_neg (by decide)] at c; exact absurd c (by decide)
  · rw [if_neg (by rw [h]; decide), if_neg (by rw [h]; decide), if_pos h, if_neg ?_] at c
    · exact absurd c (by decide)
    · rintro (⟨-, -, h1⟩ | ⟨-, -, -, h1, -⟩ | ⟨-, -, -, h1⟩) <;> exact absurd h1 (by decide)
  · exact h
/-! ===== the orders ===== -/
def ordX (st : Nat → Int32) (ki : Int32) (iz : Nat) (va : Int32) (jz : Nat) : Nat → Int32 := if ki = 43 then tieS st iz va else if ki = 62 then addS st iz jz else slipS st iz jz
def ordN (st : Nat → Int32) (s : RS) : Nat → Int32 := ordX st s.2.2.2.1 s.2.2.1.toNatClampNeg s.2.2.2.2 s.2.2.2.2.toNatClampNeg
def doSt (bu : Nat → Int32) (s : RS) (ln : Nat) (st : Nat → Int32) : Nat → (Nat → Int32) × Nat × Bool
  | 0 => (st, 0, false)
  | k + 1 => if (doSt bu s ln st k).2.2 = false ∧ (k = ln ∨ bu k = 59) then
      (if ordN (doSt bu s ln st k).1 (rdEnd bu s k) 4 = (doSt bu s ln st k).1 4 then (ordN (doSt bu s ln st k).1 (rdEnd bu s k), (doSt bu s ln st k).2.1 + 1, false) else (ordN (doSt bu s ln st k).1 (rdEnd bu s k), (doSt bu s ln st k).2.1, true))
    else doSt bu s ln st k
section
variable {bu : Nat → Int32} {s : RS} {ln k : Nat} {st : Nat → Int32}
theorem doSt_a (h : (doSt bu s ln st k).2.2 = false) (ho : k = ln ∨ bu k = 59) (c : ordN (doSt bu s ln st k).1 (rdEnd bu s k) 4 = (doSt bu s ln st k).1 4) : doSt bu s ln st (k + 1) = (ordN (doSt bu s ln st k).1 (rdEnd bu s k), (doSt bu s ln st k).2.1 + 1, false) := by
  show (if _ then _ else _) = _
  rw [if_pos ⟨h, ho⟩, if_pos c]
theorem doSt_b (h : (doSt bu s ln st k).2.2 = false) (ho : k = ln ∨ bu k = 59) (c : ¬ ordN (doSt bu s ln st k).1 (rdEnd bu s k) 4 = (doSt bu s ln st k).1 4) : doSt bu s ln st (k + 1) = (ordN (doSt bu s ln st k).1 (rdEnd bu s k), (doSt bu s ln st k).2.1, true) := by
  show (if _ then _ else _) = _
  rw [if_pos ⟨h, ho⟩, if_neg c]
theorem doSt_c (ho : ¬ (k = ln ∨ bu k = 59)) : doSt bu s ln st (k + 1) = doSt bu s ln st k := by
  show (if _ then _ else _) = _
  rw [if_neg (fun q => ho q.2)]
theorem doSt_stop (h : (doSt bu s ln st k).2.2 = true) : ∀ f, doSt bu s ln st (k + f) = doSt bu s ln st k
  | 0 => rfl
  | f + 1 => by
    have e := doSt_stop h f
    have e2 : (doSt bu s ln st (k + f)).2.2 = true := by rw [e]; exact h
    exact (if_neg (fun q => absurd (e2.symm.trans q.1) (by decide))).trans e
theorem doSt_n (bu : Nat → Int32) (s : RS) (ln : Nat) (st : Nat → Int32) : ∀ k, (doSt bu s ln st k).2.1 ≤ k
  | 0 => Nat.le_refl _
  | k + 1 => by
    have := doSt_n bu s ln st k
    show (if _ then _ else _ : (Nat → Int32) × Nat × Bool).2.1 ≤ _
    split
    · split <;> (show _ ≤ _; simp only []; omega)
    · omega
theorem nI_nat {x : Int32} (h : 0 ≤ x) : x = nI x.toNatClampNeg := by
  obtain ⟨j, hj, rfl⟩ := nI_of (Int32.not_lt.mpr h)
  rw [nI_clamp hj]
theorem nat_lt {x : Int32} {b : Nat} (h : 0 ≤ x) (h2 : x < nI b) (hb : b < 2 ^ 31) : x.toNatClampNeg < b := by
  obtain ⟨j, hj, rfl⟩ := nI_of (Int32.not_lt.mpr h)
  rw [nI_clamp hj]
  exact (nI_ltI hj hb).mp h2
theorem ord_c (h : rdOK s) (h3 : s.1 = 3) : s.2.2.1 = nI s.2.2.1.toNatClampNeg ∧ s.2.2.1.toNatClampNeg < 7 ∧ (s.2.2.2.1 ≠ 43 → s.2.2.2.2 = nI s.2.2.2.2.toNatClampNeg) ∧ (s.2.2.2.1 = 62 → s.2.2.2.2.toNatClampNeg < 7) ∧ (s.2.2.2.1 ≠ 43 → s.2.2.2.1 ≠ 62 → s.2.2.2.2.toNatClampNeg < 6) := by
  rcases h with h | ⟨h, hc⟩ | ⟨h, hc, hk⟩ | ⟨h, hc, hk, hv⟩
  · rw [h3] at h; exact absurd h (by decide)
  · rw [h3] at h; exact absurd h (by decide)
  · rw [h3] at h; exact absurd h (by decide)
  · refine ⟨nI_nat hc.1, nat_lt hc.1 hc.2 (by decide), fun q => ?_, fun q => ?_, fun q q2 => ?_⟩
    · rcases hv with hv | hv | hv
      · exact absurd hv q
      · exact nI_nat hv.2.1
      · exact nI_nat hv.2.1
    · rcases hv with hv | hv | hv
      · rw [q] at hv; exact absurd hv (by decide)
      · exact nat_lt hv.2.1 hv.2.2.1 (by decide)
      · rw [hv.1] at q; exact absurd q (by decide)
    · rcases hv with hv | hv | hv
      · exact absurd hv q
      · exact absurd hv.1 q2
      · exact nat_lt hv.2.1 hv.2.2 (by decide)
theorem pcOK_ordN (h : pcOK st) (hs : rdOK s) (h3 : s.1 = 3) : pcOK (ordN st s) := by
  obtain ⟨-, h1, -, h4, h5⟩ := ord_c hs h3
  unfold ordN ordX
  split
  · exact pcOK_tieS h h1
  · split
    · exact pcOK_addS h (h4 ‹_›)
    · exact pcOK_slipS h (h5 ‹_› ‹_›)
theorem at_ord (hs : rdOK s) (hall : errN bu s ln = ln) (h3 : (rdEnd bu s ln).1 = 3) (hk : k ≤ ln) (ho : k = ln ∨ bu k = 59) : (rdEnd bu s k).1 = 3 := by
  by_cases e : k = ln
  · rw [e]; exact h3
  · have h1 := errN_some hall (k := k) (by omega)
    rcases ho with ho | ho
    · exact absurd ho e
    · rw [ho] at h1
      exact rd_59 (rdOK_end hs k) h1
theorem pcOK_doSt (h : pcOK st) (hs : rdOK s) (hall : errN bu s ln = ln) (h3 : (rdEnd bu s ln).1 = 3) : ∀ k, k ≤ ln + 1 → pcOK (doSt bu s ln st k).1
  | 0, _ => h
  | k + 1, hk => by
    have ih := pcOK_doSt h hs hall h3 k (by omega)
    show pcOK (if _ then _ else _ : (Nat → Int32) × Nat × Bool).1
    split
    · rename_i hq
      have := pcOK_ordN ih (rdOK_end hs k) (at_ord hs hall h3 (by omega) hq.2)
      split <;> exact this
    · exact ih
end
/-! ===== what a reader left behind does not show ===== -/
def rdSim (a b : RS) : Prop := a.1 = b.1 ∧ (a.1 = 0 ∨ (a.1 = 1 ∧ a.2.2.1 = b.2.2.1) ∨ (a.1 = 2 ∧ a.2.2.1 = b.2.2.1 ∧ a.2.2.2.1 = b.2.2.2.1) ∨ a = b)
theorem rdSim.rf (a : RS) : rdSim a a := ⟨rfl, Or.inr (Or.inr (Or.inr rfl))⟩
theorem rd_0 {s : RS} (c : Int32) (h : s.1 = 0) : rdStep s c = if 0 ≤ c - 48 ∧ c - 48 < 7 then some (1, s.2.1, c - 48, s.2.2.2.1, s.2.2.2.2) else none := if_pos h
theorem rd_1 {s : RS} (c : Int32) (h : s.1 = 1) : rdStep s c = if c = 43 ∨ c = 62 ∨ c = 126 then some (2, s.2.1, s.2.2.1, c, s.2.2.2.2) else none := (if_neg (by rw [h]; decide)).trans (if_pos h)
theorem rd_2 {s : RS} (c : Int32) (h : s.1 = 2) : rdStep s c = if mayB s.2.2.2.1 s.2.2.1 (c - 48) then some (3, 1, s.2.2.1, s.2.2.2.1, c - 48) else none := (if_neg (by rw [h]; decide)).trans ((if_neg (by rw [h]; decide)).trans (if_pos h))
theorem rdSim_step {a b : RS} (h : rdSim a b) (c : Int32) : (rdStep a c = none ∧ rdStep b c = none) ∨ ∃ a' b', rdStep a c = some a' ∧ rdStep b c = some b' ∧ rdSim a' b' := by
  obtain ⟨h1, h2⟩ := h
  rcases h2 with h2 | ⟨h2, h3⟩ | ⟨h2, h3, h4⟩ | h2
  · have hb := h1.symm.trans h2
    rw [rd_0 c h2, rd_0 c hb]
    by_cases q : 0 ≤ c - 48 ∧ c - 48 < 7
    · rw [if_pos q, if_pos q]; exact Or.inr ⟨_, _, rfl, rfl, rfl, Or.inr (Or.inl ⟨rfl, rfl⟩)⟩
    · rw [if_neg q, if_neg q]; exact Or.inl ⟨rfl, rfl⟩
  · have hb := h1.symm.trans h2
    rw [rd_1 c h2, rd_1 c hb]
    by_cases q : c = 43 ∨ c = 62 ∨ c = 126
    · rw [if_pos q, if_pos q]; exact Or.inr ⟨_, _, rfl, rfl, rfl, Or.inr (Or.inr (Or.inl ⟨rfl, h3, rfl⟩))⟩
    · rw [if_neg q, if_neg q]; exact Or.inl ⟨rfl, rfl⟩
  · have hb := h1.symm.trans h2
    rw [rd_2 c h2, rd_2 c hb, h3, h4]
    by_cases q : mayB b.2.2.2.1 b.2.2.1 (c - 48)
    · rw [if_pos q]; exact Or.inr ⟨_, _, rfl, rfl, rdSim.rf _⟩
    · rw [if_neg q]; exact Or.inl ⟨rfl, rfl⟩
  · subst h2
    cases e : rdStep a c with
    | none => exact Or.inl ⟨rfl, rfl⟩
    | some t => exact Or.inr ⟨t, t, rfl, rfl, rdSim.rf t⟩
section
variable {a b : RS} {bu : Nat → Int32}
theorem rdSim_next (h : rdSim a b) (c : Int32) : rdSim (rdNext a c) (rdNext b c) ∧ (rdStep a c).isSome = (rdStep b c).isSome := by
  unfold rdNext
  rcases rdSim_step h c with ⟨h1, h2⟩ | ⟨a', b', h1, h2, h3⟩
  · rw [h1, h2]; exact ⟨h, rfl⟩
  · rw [h1, h2]; exact ⟨h3, rfl⟩
theorem rdSim_end (h : rdSim a b) : ∀ k, rdSim (rdEnd bu a k) (rdEnd bu b k)
  | 0 => h
  | k + 1 => (rdSim_next (rdSim_end h k) _).1
theorem errN_sim (h : rdSim a b) : ∀ k, errN bu a k = errN bu b k
  | 0 => rfl
  | k + 1 => by
    have e := (rdSim_next (rdSim_end (bu := bu) h k) (bu k)).2
    show (if errN bu a k = k then (if (rdStep (rdEnd bu a k) (bu k)).isSome then k + 1 else k) else errN bu a k) = if errN bu b k = k then (if (rdStep (rdEnd bu b k) (bu k)).isSome then k + 1 else k) else errN bu b k
    rw [errN_sim h k, e]
theorem rdSim_3 (h : rdSim a b) (h3 : a.1 = 3) : a = b := by
  rcases h.2 with h | ⟨h, -⟩ | ⟨h, -⟩ | h
  · rw [h3] at h; exact absurd h (by decide)
  · rw [h3] at h; exact absurd h (by decide)
  · rw [h3] at h; exact absurd h (by decide)
  · exact h
theorem doSt_sim {ln : Nat} {st : Nat → Int32} (h : rdSim a b) (hs : rdOK a) (hall : errN bu a ln = ln) (h3 : (rdEnd bu a ln).1 = 3) : ∀ k, k ≤ ln + 1 → doSt bu a ln st k = doSt bu b ln st k
  | 0, _ => rfl
  | k + 1, hk => by
    have ih := doSt_sim (st := st) h hs hall h3 k (by omega)
    by_cases ho : k = ln ∨ bu k = 59
    · have e := rdSim_3 (rdSim_end (bu := bu) h k) (at_ord hs hall h3 (by omega) ho)
      show (if (doSt bu a ln st k).2.2 = false ∧ (k = ln ∨ bu k = 59) then (if ordN (doSt bu a ln st k).1 (rdEnd bu a k) 4 = (doSt bu a ln st k).1 4 then (ordN (doSt bu a ln st k).1 (rdEnd bu a k), (doSt bu a ln st k).2.1 + 1, false) else (ordN (doSt bu a ln st k).1 (rdEnd bu a k), (doSt bu a ln st k).2.1, true)) else doSt bu a ln st k) = if (doSt bu b ln st k).2.2 = false ∧ (k = ln ∨ bu k = 59) then (if ordN (doSt bu b ln st k).1 (rdEnd bu b k) 4 = (doSt bu b ln st k).1 4 then (ordN (doSt bu b ln st k).1 (rdEnd bu b k), (doSt bu b ln st k).2.1 + 1, false) else (ordN (doSt bu b ln st k).1 (rdEnd bu b k), (doSt bu b ln st k).2.1, true)) else doSt bu b ln st k
      rw [ih, e]
    · rw [doSt_c ho, doSt_c ho]; exact ih
def rs0 : RS := (0, 0, 0, 0, 0)
theorem rdSim0 (d c k v : Int32) : rdSim (0, d, c, k, v) rs0 := ⟨rfl, Or.inl rfl⟩
theorem rdOK0 (d c k v : Int32) : rdOK (0, d, c, k, v) := Or.inl rfl
end
