theorem isC.gr {cy : Nat → ClassId} {K K1 : Nat} {ad ad1 : Nat → Nat} {g g1 : Nat → va_E} {n : Nat} {kn : Nat → Int32} {lo : Nat → Int32} {pa : Nat → Int32} {pc : Int32} {hu : Int32} {sl : Int32} (h : isC cy K ad g n kn lo pa pc hu sl) (hK : K ≤ K1) (ha : ∀ x, x < K → ad1 x = ad x) (hg : ∀ x, n ≤ x → x < n + 4 → g1 x = g x) : isC cy K1 ad1 g1 n kn lo pa pc hu sl := by
  unfold isC at h ⊢
  obtain ⟨h0, h1, h2, h3, h4⟩ := h
  exact ⟨by omega, by rw [hg n (by omega) (by omega), h1, ha (n + 1) (by omega), ha (n + 2) (by omega), ha (n + 3) (by omega)], by rw [hg (n + 1) (by omega) (by omega)]; exact h2, by rw [hg (n + 2) (by omega) (by omega)]; exact h3, by rw [hg (n + 3) (by omega) (by omega)]; exact h4⟩
theorem isG.gr {cy : Nat → ClassId} {K K1 : Nat} {ad ad1 : Nat → Nat} {g g1 : Nat → va_E} {n : Nat} {rw : Nat → Option Nat} {ro : Int32} {kt : Int32} {lt : Int32} {sl : Int32} {go : Int32} {re : Int32} (h : isG cy K ad g n rw ro kt lt sl go re) (hK : K ≤ K1) (ha : ∀ x, x < K → ad1 x = ad x) (hg : ∀ x, n ≤ x → x < n + 2 → g1 x = g x) : isG cy K1 ad1 g1 n rw ro kt lt sl go re := by
  unfold isG at h ⊢
  obtain ⟨h0, h1, h2⟩ := h
  exact ⟨by omega, by rw [hg n (by omega) (by omega), h1, ha (n + 1) (by omega)], by rw [hg (n + 1) (by omega) (by omega)]; exact h2⟩
theorem isY.gr {cy : Nat → ClassId} {K K1 : Nat} {ad ad1 : Nat → Nat} {g g1 : Nat → va_E} {n : Nat} {rw : Nat → Option Nat} {nx : Int32} {sz : Int32} (h : isY cy K ad g n rw nx sz) (hK : K ≤ K1) (ha : ∀ x, x < K → ad1 x = ad x) (hg : ∀ x, n ≤ x → x < n + 2 → g1 x = g x) : isY cy K1 ad1 g1 n rw nx sz := by
  unfold isY at h ⊢
  obtain ⟨h0, h1, h2⟩ := h
  exact ⟨by omega, by rw [hg n (by omega) (by omega), h1, ha (n + 1) (by omega)], by rw [hg (n + 1) (by omega) (by omega)]; exact h2⟩
theorem isR.gr {cy : Nat → ClassId} {K K1 : Nat} {ad ad1 : Nat → Nat} {g g1 : Nat → va_E} {n : Nat} {st : Int32} {di : Int32} {co : Int32} {ki : Int32} {va : Int32} (h : isR cy K ad g n st di co ki va) (hK : K ≤ K1) (ha : ∀ x, x < K → ad1 x = ad x) (hg : ∀ x, n ≤ x → x < n + 1 → g1 x = g x) : isR cy K1 ad1 g1 n st di co ki va := by
  unfold isR at h ⊢
  obtain ⟨h0, h1⟩ := h
  exact ⟨by omega, by rw [hg n (by omega) (by omega), h1]⟩
theorem isX.gr {cy : Nat → ClassId} {K K1 : Nat} {ad ad1 : Nat → Nat} {g g1 : Nat → va_E} {n : Nat} {sn : Nat → Option Nat} {bu : Nat → Int32} {tl : Nat → Int32} {ln : Int32} (h : isX cy K ad g n sn bu tl ln) (hK : K ≤ K1) (ha : ∀ x, x < K → ad1 x = ad x) (hg : ∀ x, n ≤ x → x < n + 221 → g1 x = g x) : isX cy K1 ad1 g1 n sn bu tl ln := by
  unfold isX at h ⊢
  obtain ⟨h0, h1, h2, h3, h4⟩ := h
  exact ⟨by omega, by rw [hg n (by omega) (by omega), h1, ha (n + 1) (by omega), ha (n + 31) (by omega), ha (n + 213) (by omega), ha (n + 214) (by omega), ha (n + 215) (by omega), ha (n + 216) (by omega), ha (n + 220) (by omega)], by rw [hg (n + 213) (by omega) (by omega)]; exact h2, by rw [hg (n + 214) (by omega) (by omega)]; exact h3, by rw [hg (n + 220) (by omega) (by omega)]; exact h4⟩
theorem isA.gr {cy : Nat → ClassId} {K K1 : Nat} {ad ad1 : Nat → Nat} {g g1 : Nat → va_E} {n : Nat} {ln9 : Nat} {fn : Nat → Int32} (h : isA cy K ad g n ln9 fn) (hK : K ≤ K1) (ha : ∀ x, x < K → ad1 x = ad x) (hg : ∀ x, n ≤ x → x < n + 1 → g1 x = g x) : isA cy K1 ad1 g1 n ln9 fn := by
  unfold isA at h ⊢
  obtain ⟨h0, h1⟩ := h
  exact ⟨by omega, by rw [hg (n) (by omega) (by omega)]; exact h1⟩
section
variable {cy : Nat → ClassId} {K K1 : Nat} {ad ad1 : Nat → Nat} {g g1 : Nat → va_E} {n : Nat}
theorem isCs.gr {x : Nat → Int32} (h : isCs cy K ad g n x) (hK : K ≤ K1) (ha : ∀ x, x < K → ad1 x = ad x) (hg : ∀ x, n ≤ x → x < n + 4 → g1 x = g x) : isCs cy K1 ad1 g1 n x := by
  obtain ⟨kn, lo, pa, h, h2⟩ := h
  exact ⟨kn, lo, pa, h.gr hK ha hg, h2⟩
theorem isH.gr {st : Nat → Int32} (h : isH cy K ad g n st) (hK : K ≤ K1) (ha : ∀ x, x < K → ad1 x = ad x) (hg : ∀ x, n ≤ x → x < n + 30 → g1 x = g x) : isH cy K1 ad1 g1 n st := by
  have hlt := h.lt
  obtain ⟨rw, h, h2, h3⟩ := h
  exact ⟨rw, h.gr hK ha (fun x q1 q2 => hg x (by omega) (by omega)), fun i hi => by rw [h2 i hi, ha _ (by omega)], fun i hi => (h3 i hi).gr hK ha (fun x q1 q2 => hg x (by omega) (by omega))⟩
theorem isHa.gr {sv : Nat → Nat → Int32} (h : isHa cy K ad g n sv) (hK : K ≤ K1) (ha : ∀ x, x < K → ad1 x = ad x) (hg : ∀ x, n ≤ x → x < n + 182 → g1 x = g x) : isHa cy K1 ad1 g1 n sv := fun j hj => (h j hj).gr hK ha (fun x q1 q2 => hg x (by omega) (by omega))
theorem isHi.gr {sv : Nat → Nat → Int32} {nx sz : Nat} (h : isHi cy K ad g n sv nx sz) (hK : K ≤ K1) (ha : ∀ x, x < K → ad1 x = ad x) (hg : ∀ x, n ≤ x → x < n + 182 → g1 x = g x) : isHi cy K1 ad1 g1 n sv nx sz := by
  have hlt := h.lt
  obtain ⟨rw, h, h2, h3⟩ := h
  exact ⟨rw, h.gr hK ha (fun x q1 q2 => hg x (by omega) (by omega)), fun j hj => by rw [h2 j hj, ha _ (by omega)], h3.gr hK ha hg⟩
end
