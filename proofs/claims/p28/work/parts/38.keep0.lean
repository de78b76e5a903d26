/-! ===== slots ===== -/
section
variable {cy : Nat → ClassId} {K K1 : Nat} {ad ad1 : Nat → Nat} {g g1 : Nat → va_E} {sn ns : Nat → Option Nat} {ss : Nat → Nat → Int32} {st : Nat → Int32}
theorem isSn.put (h : isSn cy K ad g sn ns ss) {j na : Nat} (hj : j < 2) (hns : ns j = some na) (hf : zFr (zRg na (na + 30)) g g1) (hS : isH cy K ad g1 na st) : isSn cy K ad g1 sn ns (va_up ss j st) := by
  refine ⟨fun i hi => ⟨(h.1 i hi).1, fun a ha => ?_⟩, h.2⟩
  by_cases hij : i = j
  · subst hij
    rw [hns] at ha
    cases ha
    rw [va_up_self]
    exact ⟨((h.1 i hi).2 _ hns).1, hS⟩
  · rw [va_up_ne _ _ hij]
    refine ⟨((h.1 i hi).2 a ha).1, ((h.1 i hi).2 a ha).2.kept hf (fun z h1 h2 => ?_)⟩
    have hd : a + 30 ≤ na ∨ na + 30 ≤ a := by
      have c : (i = 0 ∧ j = 1) ∨ (i = 1 ∧ j = 0) := by omega
      rcases c with ⟨rfl, rfl⟩ | ⟨rfl, rfl⟩
      · exact h.2 a na ha hns
      · exact (h.2 na a hns ha).symm
    dsimp only [zRg]
    omega
theorem isSn.gr (h : isSn cy K ad g sn ns ss) (hK : K ≤ K1) (ha : ∀ x, x < K → ad1 x = ad x) (hg : ∀ x, x < K → g1 x = g x) : isSn cy K1 ad1 g1 sn ns ss := by
  refine ⟨fun j hj => ⟨?_, fun a h9 => ?_⟩, h.2⟩
  · rw [(h.1 j hj).1]
    cases e : ns j with
    | none => rfl
    | some a =>
      have := ((h.1 j hj).2 a e).2.n0
      show some (ad a) = some (ad1 a)
      rw [ha a this]
  · have h8 := ((h.1 j hj).2 a h9).2
    have hlt := h8.lt
    exact ⟨((h.1 j hj).2 a h9).1, h8.gr hK ha (fun x q1 q2 => hg x (by omega))⟩
theorem isT.gr {sv : Nat → Nat → Int32} {nx sz : Nat} {bu : Nat → Int32} {ln : Nat} (h : isT cy K ad g st sv nx sz ns ss bu ln) (hK : K ≤ K1) (ha : ∀ x, x < K → ad1 x = ad x) (hg : ∀ x, x < K → g1 x = g x) : isT cy K1 ad1 g1 st sv nx sz ns ss bu ln := by
  obtain ⟨sn, tl, rs, x, hX, hH, hHi, hRs, hTr, hSn⟩ := h
  have q1 := hX.1
  have q2 := hH.lt
  have q3 := hHi.lt
  have q4 := hTr.lt
  exact ⟨sn, tl, rs, x, hX.gr hK ha (fun x _ h9 => hg x (by omega)), hH.gr hK ha (fun x _ h9 => hg x (by omega)), hHi.gr hK ha (fun x _ h9 => hg x (by omega)), isR.gr hRs hK ha (fun x _ h9 => hg x (by omega)), hTr.gr hK ha (fun x _ h9 => hg x (by omega)), hSn.gr hK ha hg⟩
end
