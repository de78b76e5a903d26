/-! ===== saved states and slots on both sides ===== -/
section
variable {st s s2 mv so ik : Nat → Int32} {sv ss : Nat → Nat → Int32} {ns : Nat → Option Nat} {nx sz : Nat}
theorem sE.r (h : sE st s) (e : ∀ x, x < 223 → s2 x = s x) : sE st s2 := fun x hx hn => (h x hx hn).trans (e x hx).symm
/-- the ring of the class holds what the row of the reference holds -/
def svE (sv : Nat → Nat → Int32) (nx sz : Nat) (mv : Nat → Int32) : Prop := ∀ j, j < sz → sE (sv ((nx + 6 - sz + j) % 6)) (fun x => mv (223 * j + x)) ∧ stOK (sv ((nx + 6 - sz + j) % 6))
theorem svE_0 (sv : Nat → Nat → Int32) (nx : Nat) (mv : Nat → Int32) : svE sv nx 0 mv := fun j hj => absurd hj (Nat.not_lt_zero _)
theorem svE.save (h : svE sv nx sz mv) (hnx : nx < 6) (hsz : sz ≤ 6) (hE : sE st s) (hst : stOK st) : svE (va_up sv nx st) ((nx + 1) % 6) (min (sz + 1) 6) (svS mv sz s) := by
  intro j hj
  by_cases c : sz = 6
  · subst c
    have e6 : min (6 + 1) 6 = 6 := rfl
    rw [e6] at hj ⊢
    have ei : ((nx + 1) % 6 + 6 - 6 + j) % 6 = (nx + 1 + j) % 6 := by omega
    rw [ei]
    have hw : ∀ x, x < 223 → svS mv 6 s (223 * j + x) = if j = 5 then s x else mv (223 * (j + 1) + x) := by
      intro x hx
      show wrF (svB mv 6) (svM 6) s 223 (223 * j + x) = _
      have m5 : svM 6 = 5 := rfl
      have b6 : svB mv 6 = shF mv 1115 := rfl
      rw [m5, b6]
      unfold wrF
      by_cases q : j = 5
      · rw [if_pos (by omega), if_pos q, show 223 * j + x - 223 * 5 = x by omega]
      · rw [if_neg (by omega), if_neg q]
        unfold shF
        rw [if_pos (by omega), show 223 + (223 * j + x) = 223 * (j + 1) + x by omega]
    by_cases q : j = 5
    · have en : (nx + 1 + j) % 6 = nx := by omega
      rw [en, va_up_self]
      exact ⟨hE.r (fun x hx => by rw [hw x hx, if_pos q]), hst⟩
    · have hi := h (j + 1) (by omega)
      have en : (nx + 6 - 6 + (j + 1)) % 6 = (nx + 1 + j) % 6 := by omega
      rw [en] at hi
      rw [va_up_ne _ _ (by omega)]
      exact ⟨hi.1.r (fun x hx => by rw [hw x hx, if_neg q]), hi.2⟩
  · have em : min (sz + 1) 6 = sz + 1 := by omega
    rw [em] at hj ⊢
    have ei : ((nx + 1) % 6 + 6 - (sz + 1) + j) % 6 = (nx + 6 - sz + j) % 6 := by omega
    rw [ei]
    have hw : ∀ x, x < 223 → svS mv sz s (223 * j + x) = if j = sz then s x else mv (223 * j + x) := by
      intro x hx
      show wrF (svB mv sz) (svM sz) s 223 (223 * j + x) = _
      have m5 : svM sz = sz := if_neg c
      have b6 : svB mv sz = mv := if_neg c
      rw [m5, b6]
      unfold wrF
      by_cases q : j = sz
      · rw [if_pos (by omega), if_pos q, show 223 * j + x - 223 * sz = x by omega]
      · rw [if_neg (by omega), if_neg q]
    by_cases q : j = sz
    · have en : (nx + 6 - sz + j) % 6 = nx := by omega
      rw [en, va_up_self]
      exact ⟨hE.r (fun x hx => by rw [hw x hx, if_pos q]), hst⟩
    · have hi := h j (by omega)
      rw [va_up_ne _ _ (by omega)]
      exact ⟨hi.1.r (fun x hx => by rw [hw x hx, if_neg q]), hi.2⟩
theorem svM_min (hsz : sz ≤ 6) : svM sz + 1 = min (sz + 1) 6 := by
  unfold svM
  split <;> omega
theorem svE.undo (h : svE sv nx (sz + 1) mv) (hnx : nx < 6) (hsz : sz < 6) : svE sv ((nx + 5) % 6) sz mv ∧ sE (sv ((nx + 5) % 6)) (slG mv sz 223 s) ∧ stOK (sv ((nx + 5) % 6)) := by
  refine ⟨fun j hj => ?_, ?_⟩
  · have hi := h j (by omega)
    have en : ((nx + 5) % 6 + 6 - sz + j) % 6 = (nx + 6 - (sz + 1) + j) % 6 := by omega
    rw [en]
    exact hi
  · have hi := h sz (by omega)
    have en : (nx + 6 - (sz + 1) + sz) % 6 = (nx + 5) % 6 := by omega
    rw [en] at hi
    exact ⟨hi.1.r (fun x hx => if_pos hx), hi.2⟩
/-- the slots of both sides -/
def slE (ns : Nat → Option Nat) (ss : Nat → Nat → Int32) (so ik : Nat → Int32) : Prop := ∀ j, j < 2 → (ns j = none ∧ ik j = 0) ∨ (∃ a, ns j = some a ∧ ik j = 1 ∧ sE (ss j) (fun x => so (223 * j + x)) ∧ stOK (ss j))
theorem slE_0 : slE (fun _ => none) (fun _ => st0) (fun _ => 0) (fun _ => 0) := fun j _ => Or.inl ⟨rfl, rfl⟩
theorem slE.put (h : slE ns ss so ik) {jz : Nat} (hj : jz < 2) (hE : sE st s) (hst : stOK st) {ns2 : Nat → Option Nat} {na : Nat} (hn : ns2 jz = some na) (hn2 : ∀ j, j ≠ jz → ns2 j = ns j) : slE ns2 (va_up ss jz st) (wrF so jz s 223) (upd ik jz 1) := by
  intro j hj2
  have hw : ∀ x, x < 223 → wrF so jz s 223 (223 * j + x) = if j = jz then s x else so (223 * j + x) := by
    intro x hx
    unfold wrF
    by_cases q : j = jz
    · rw [if_pos (by omega), if_pos q, show 223 * j + x - 223 * jz = x by omega]
    · rw [if_neg (by omega), if_neg q]
  by_cases q : j = jz
  · refine Or.inr ⟨na, by rw [q]; exact hn, by rw [q]; exact upd_at _ _ _, ?_, ?_⟩
    · rw [q, va_up_self]
      exact hE.r (fun x hx => by have e := (hw x hx).trans (if_pos q); rw [q] at e; exact e)
    · rw [q, va_up_self]
      exact hst
  · rcases h j hj2 with ⟨h1, h2⟩ | ⟨a, h1, h2, h3, h4⟩
    · exact Or.inl ⟨(hn2 j q).trans h1, (if_neg q).trans h2⟩
    · refine Or.inr ⟨a, (hn2 j q).trans h1, (if_neg q).trans h2, ?_, ?_⟩
      · rw [va_up_ne _ _ q]
        exact h3.r (fun x hx => (hw x hx).trans (if_neg q))
      · rw [va_up_ne _ _ q]
        exact h4
theorem slE.get (h : slE ns ss so ik) {jz na : Nat} (hj : jz < 2) (hn : ns jz = some na) : ik jz = 1 ∧ sE (ss jz) (slG so jz 223 s) ∧ stOK (ss jz) := by
  rcases h jz hj with ⟨h1, h2⟩ | ⟨a, h1, h2, h3, h4⟩
  · rw [hn] at h1; cases h1
  · exact ⟨h2, h3.r (fun x hx => if_pos hx), h4⟩
theorem slE.no (h : slE ns ss so ik) {jz : Nat} (hj : jz < 2) (hn : ns jz = none) : ik jz = 0 := by
  rcases h jz hj with ⟨h1, h2⟩ | ⟨a, h1, h2, h3, h4⟩
  · exact h2
  · rw [hn] at h1; cases h1
theorem slE.kept (h : slE ns ss so ik) : ∀ j, j < 2 → ik j = if (ns j).isSome then 1 else 0 := by
  intro j hj
  rcases h j hj with ⟨h1, h2⟩ | ⟨a, h1, h2, h3, h4⟩
  · rw [h1, h2]; rfl
  · rw [h1, h2]; rfl
end
