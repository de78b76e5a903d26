def cordF (st : Nat → Int32) (i : Nat) : Nat → Int32
  | 0 => cTold st i
  | 1 => cParts st i
  | 2 => st (6 + 31 * i + 1)
  | 3 => cLack st i
  | 4 => cTies st i
  | 5 => sumN (fL st i) 6
  | 6 => st (6 + 31 * i + 0)
  | _ => st (6 + 31 * i + 2)
def placeF (st : Nat → Int32) (i j : Nat) : Nat → Int32
  | 0 => fK st i j
  | 1 => fL st i j
  | 2 => opn (fK st i) (fL st i) j
  | _ => if 0 < st 5 - (fK st i j + fL st i j) then st 5 - (fK st i j + fL st i j) else 0
def partF (st : Nat → Int32) (i : Nat) (rz : Int32) : Int32 := if rz < nI (cm st i) then fP st i rz.toNatClampNeg else -1
def countF (st : Nat → Int32) (sz : Nat) : Nat → Int32
  | 0 => sumN (cTold st) 7
  | 1 => sumN (allK st) 7 + sumN (allL st) 7
  | 2 => st 0
  | 3 => st 1
  | 4 => st 2
  | 5 => st 3
  | 6 => st 4
  | 7 => sumN (lackN st) 7
  | 8 => st 5
  | _ => nI sz
theorem zIx_cl {x : Int32} {m len : Nat} (h0 : ¬ x < 0) (h1 : x < nI m) (hm : m ≤ len) (hl : len < 2 ^ 31) : zIx x len x.toNatClampNeg ∧ x.toNatClampNeg < m := by
  obtain ⟨j, hj, rfl⟩ := nI_of h0
  have h2 := (nI_ltI hj (by omega)).mp h1
  rw [nI_clamp hj]
  exact ⟨zIx_nI (by omega) hl, h2⟩
/-- how often a number can be tied, at most so often -/
def hoN (num room : Int32) : Nat → (Nat → Int32) → (Nat → Int32) → Nat → Nat
  | 0, _, _, _ => 0
  | f + 1, kn, lo, m => if rop kn lo m num room = 0 then hoN num room f (tK kn lo num 6) (tL kn lo num 6) (m + 1) + 1 else 0
theorem hoN_congr (num room : Int32) (f : Nat) : ∀ {kn lo kn' lo' : Nat → Int32} {m : Nat}, (∀ p, p < 6 → kn p = kn' p) → (∀ p, p < 6 → lo p = lo' p) → hoN num room f kn lo m = hoN num room f kn' lo' m := by
  induction f with
  | zero => intro kn lo kn' lo' m h1 h2; rfl
  | succ f ih =>
    intro kn lo kn' lo' m h1 h2
    show (if _ then _ else _) = (if _ then _ else _)
    rw [rop_congr h1 h2]
    split
    · rw [ih (fun p hp => tK_congr h1 h2 hp) (fun p hp => tL_congr h1 h2 hp)]
    · rfl
theorem hoN_le (num room : Int32) (f : Nat) : ∀ (kn lo : Nat → Int32) (m : Nat), hoN num room f kn lo m ≤ f := by
  induction f with
  | zero => intro kn lo m; exact Nat.le_refl _
  | succ f ih =>
    intro kn lo m
    show (if _ then _ else _) ≤ _
    split
    · exact Nat.succ_le_succ (ih _ _ _)
    · exact Nat.zero_le _
def setF (st : Nat → Int32) (k : Nat) (v : Int32) : Nat → Int32 := upd st k v
section
variable {cy : Nat → ClassId} {K : Nat} {ad : Nat → Nat} {g g1 : Nat → va_E} {n i : Nat} {st : Nat → Int32} {v : Int32}
/-- the hue of a cord changes -/
theorem isH_hue (hH : isH cy K ad g n st) (hi : i < 7) {rw : Nat → Option Nat} {kn lo pa : Nat → Int32} (hrw : ∀ i, i < 7 → rw i = some (ad (n + 2 + 4 * i))) (hf : zFr (zOne (n + 2 + 4 * i)) g g1) (hG : isG cy K ad g1 n rw (st 5) (st 0) (st 1) (st 2) (st 3) (st 4)) (hC : isC cy K ad g1 (n + 2 + 4 * i) kn lo pa (st (6 + 31 * i + 1)) v (st (6 + 31 * i + 2))) (h1 : ∀ p, p < 6 → kn p = fK st i p) (h2 : ∀ p, p < 6 → lo p = fL st i p) (h3 : ∀ p, p < 16 → pa p = fP st i p) : isH cy K ad g1 n (upd st (6 + 31 * i + 0) v) := by
  have e : ∀ x, x ≠ 6 + 31 * i + 0 → upd st (6 + 31 * i + 0) v x = st x := fun x hx => by simp only [upd]; exact if_neg hx
  refine hH.put hi (x := fun j => upd st (6 + 31 * i + 0) v (6 + 31 * i + j)) hrw (hf.mono (fun z hz => by dsimp only [zOne] at hz ⊢; omega)) hG ⟨kn, lo, pa, ?_, fun p hp => (h1 p hp).trans (e _ (by omega)).symm, fun p hp => (h2 p hp).trans (e _ (by omega)).symm, fun p hp => (h3 p hp).trans (e _ (by omega)).symm⟩ (e _ (by omega)).symm (e _ (by omega)).symm (e _ (by omega)).symm (e _ (by omega)).symm (e _ (by omega)).symm (e _ (by omega)).symm (fun j hj => rfl) (fun k hk hki j hj => e _ (by omega))
  show isC cy K ad g1 _ kn lo pa (upd st (6 + 31 * i + 0) v (6 + 31 * i + 1)) (upd st (6 + 31 * i + 0) v (6 + 31 * i + 0)) (upd st (6 + 31 * i + 0) v (6 + 31 * i + 2))
  rw [e _ (by omega), e (6 + 31 * i + 2) (by omega), show upd st (6 + 31 * i + 0) v (6 + 31 * i + 0) = v by simp [upd]]
  exact hC
/-- the setting changes -/
theorem isH_set (hH : isH cy K ad g n st) {rw : Nat → Option Nat} (hrw : ∀ i, i < 7 → rw i = some (ad (n + 2 + 4 * i))) (hf : zFr (zOne n) g g1) (hG : isG cy K ad g1 n rw v (st 0) (st 1) (st 2) (st 3) (st 4)) : isH cy K ad g1 n (upd st 5 v) := by
  obtain ⟨rw0, h, h2, h3⟩ := hH
  have e : ∀ x, x ≠ 5 → upd st 5 v x = st x := fun x hx => by simp only [upd]; exact if_neg hx
  refine ⟨rw, ?_, hrw, fun k hk => ((h3 k hk).kept hf (fun z h1 h2 => by dsimp only [zOne]; omega)).congr (fun j hj => (e _ (by omega)).symm)⟩
  rw [show upd st 5 v 5 = v by simp [upd], e 0 (by omega), e 1 (by omega), e 2 (by omega), e 3 (by omega), e 4 (by omega)]
  exact hG
theorem isX_tl {sn : Nat → Option Nat} {bu tl tl2 : Nat → Int32} {ln : Int32} (h : isX cy K ad g 0 sn bu tl ln) (hf : zFr (zOne 220) g g1) (hB : isA cy K ad g1 220 7 tl2) : isX cy K ad g1 0 sn bu tl2 ln :=
  ⟨h.1, (hf _ (by dsimp only [zOne]; omega)).trans h.o, (hf _ (by dsimp only [zOne]; omega)).trans h.a_sn, (hf _ (by dsimp only [zOne]; omega)).trans h.a_bu, hB.a_fn⟩
end
theorem zchar {x : Int32} (h1 : ¬ x < 33) (h2 : x ≤ 126) : (x.toUInt32 % 65536).toInt32 = x ∧ vp_nar .char x = x ∧ narrow .char (.int x) = .int x ∧ fits .char (.int x) = true := by
  have h0 : ¬ x < 0 := fun q => h1 (Int32.lt_trans q (by decide))
  obtain ⟨j, hj, rfl⟩ := nI_of h0
  have h3 : j ≤ 126 := (nI_leI (b := 126) hj (by decide)).mp h2
  have e : ((nI j).toUInt32 % 65536).toInt32 = nI j := by
    rw [pk_char, pk_tn (by omega), Nat.mod_eq_of_lt (by omega)]
  refine ⟨e, ?_, (pk_charN (by omega)).1, (pk_charN (by omega)).2⟩
  unfold vp_nar
  rw [(pk_charN (by omega)).1]
section
variable {k3 l3 p3 : Nat → Int32} {h9 s9 v9 : Int32}
theorem zho1 : ∀ p, p < 6 → k3 p = (fun j => if j = 0 then h9 else if j = 1 then v9 else if j = 2 then s9 else if j < 19 then p3 (j - 3) else if j < 25 then k3 (j - 19) else l3 (j - 25)) (19 + p) := fun p hp => by
  show _ = if _ then _ else _
  rw [if_neg (by omega), if_neg (by omega), if_neg (by omega), if_neg (by omega), if_pos (by omega), Nat.add_sub_cancel_left]
theorem zho2 : ∀ p, p < 6 → l3 p = (fun j => if j = 0 then h9 else if j = 1 then v9 else if j = 2 then s9 else if j < 19 then p3 (j - 3) else if j < 25 then k3 (j - 19) else l3 (j - 25)) (25 + p) := fun p hp => by
  show _ = if _ then _ else _
  rw [if_neg (by omega), if_neg (by omega), if_neg (by omega), if_neg (by omega), if_neg (by omega), Nat.add_sub_cancel_left]
theorem zho3 : ∀ p, p < 16 → p3 p = (fun j => if j = 0 then h9 else if j = 1 then v9 else if j = 2 then s9 else if j < 19 then p3 (j - 3) else if j < 25 then k3 (j - 19) else l3 (j - 25)) (3 + p) := fun p hp => by
  show _ = if _ then _ else _
  rw [if_neg (by omega), if_neg (by omega), if_neg (by omega), if_pos (by omega), Nat.add_sub_cancel_left]
end
