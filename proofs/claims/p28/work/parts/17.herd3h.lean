def isCa (cy : Nat → ClassId) (K : Nat) (ad : Nat → Nat) (g : Nat → va_E) (n : Nat) (st : Nat → Int32) : Prop := ∀ i, i < 7 → isCs cy K ad g (n + 2 + 4 * i) (fun j => st (6 + 31 * i + j))
theorem isCa.kept {cy : Nat → ClassId} {K : Nat} {ad : Nat → Nat} {g g1 : Nat → va_E} {n : Nat} {st : Nat → Int32} {P : Nat → Prop} (h : isCa cy K ad g n st) (hf : zFr P g g1) (hd : ∀ z, n + 2 ≤ z → z < n + 30 → ¬ P z) : isCa cy K ad g1 n st :=
  fun i hi => (h i hi).kept hf (fun z h1 h2 => hd z (by omega) (by omega))
theorem isCa.mk {cy : Nat → ClassId} {K : Nat} {ad : Nat → Nat} {g : Nat → va_E} {n : Nat} {st st2 : Nat → Int32} {rw : Nat → Option Nat} (h : isCa cy K ad g n (mixF st st2 7)) (hG : isG cy K ad g n rw (st2 5) (st2 0) (st2 1) (st2 2) (st2 3) (st2 4)) (hrw : ∀ i, i < 7 → rw i = some (ad (n + 2 + 4 * i))) : isH cy K ad g n st2 :=
  ⟨rw, hG, hrw, fun i hi => (h i hi).congr (fun j hj => mixF_in hi hj)⟩
