/-! ===== for each call of the law that catches: class and reference agree on it ===== -/
def AGr (C : zCR) (M : zMR) : Prop := stOK C.1 ∧ sE C.1 M.1 ∧ C.2.2.1 < 6 ∧ C.2.2.2.1 ≤ 6 ∧ svE C.2.1 C.2.2.1 C.2.2.2.1 M.2.2.2.1 ∧ slE C.2.2.2.2.1 C.2.2.2.2.2.1 M.2.1 M.2.2.1 ∧ C.2.2.2.2.2.2.2 ≤ 60 ∧ (∀ k, k < C.2.2.2.2.2.2.2 → C.2.2.2.2.2.2.1 k = M.2.2.2.2 k) ∧ (∀ k, k < C.2.2.2.2.2.2.2 → ¬ C.2.2.2.2.2.2.1 k < 33 ∧ C.2.2.2.2.2.2.1 k ≤ 126)
theorem z_rng {x : Int32} {b : Nat} (hb : b < 2 ^ 31) (h : ¬ (x < 0 ∨ nI b ≤ x)) : ∃ j, j < b ∧ x = nI j :=
  ⟨x.toNatClampNeg, nat_lt (Int32.not_lt.mp (fun q => h (Or.inl q))) (Int32.not_le.mp (fun q => h (Or.inr q))) hb, nI_nat (Int32.not_lt.mp (fun q => h (Or.inl q)))⟩
theorem opt_some {α : Type} {o : Option α} (h : ¬ o = none) : ∃ a, o = some a := by
  cases o with
  | none => exact absurd rfl h
  | some a => exact ⟨a, rfl⟩
theorem room_i {v : Int32} (h1 : ¬ v < 20) (h2 : v ≤ 99) : 20 ≤ v.toInt ∧ v.toInt ≤ 99 := by
  rw [Int32.lt_iff_toInt_lt] at h1
  rw [Int32.le_iff_toInt_le] at h2
  have e1 : (20 : Int32).toInt = 20 := rfl
  have e2 : (99 : Int32).toInt = 99 := rfl
  omega
theorem bt_up {bu tx : Nat → Int32} {ln k : Nat} {v : Int32} (h : ∀ k, k < ln → bu k = tx k) (hk : k < ln + 1) : upd bu ln v k = upd tx ln v k := by
  unfold upd
  by_cases e : k = ln
  · rw [if_pos e, if_pos e]
  · rw [if_neg e, if_neg e]; exact h k (by omega)
theorem bu_up {bu : Nat → Int32} {ln k : Nat} {v : Int32} (h : ∀ k, k < ln → ¬ bu k < 33 ∧ bu k ≤ 126) (h1 : ¬ v < 33) (h2 : v ≤ 126) (hk : k < ln + 1) : ¬ upd bu ln v k < 33 ∧ upd bu ln v k ≤ 126 := by
  unfold upd
  by_cases e : k = ln
  · rw [if_pos e]; exact ⟨h1, h2⟩
  · rw [if_neg e]; exact h k (by omega)
set_option maxHeartbeats 1000000 in
theorem op_tie (l : Launch) (hfl : l.stackTraces = false) {C : zCR} {M : zMR} (hA : AGr C M) (p0 p1 : Int32) : ∃ (k : Nat) (v : Int32) (C2 : zCR) (M2 : zMR), k < 3 ∧ AGr C2 M2 ∧ (∀ {D : va_G} {cy : Nat → ClassId} {K : Nat} {ad : Nat → Nat} {g : Nat → va_E} (sz : Nat) {w : Int64}, cT cy K ad g C → oV cy K g w → wM l yL_tie cL_tie 5 [(0, 10, 13, 13), (0, 10, 17, 15)] [.ref (ad 0), .int p0, .int p1, .ref (ad 230)] D cy K ad g sz k v C2) ∧ ∃ rm : Room, (rm.cells = 0 ∧ rm.slots = 0 ∧ rm.frames ≤ 100 ∧ rm.locals ≤ 1000) ∧ ∀ {D : va_G} {cy : Nat → ClassId} {K : Nat} {ad : Nat → Nat} {g : Nat → va_E} (sz : Nat) {th : Int32}, mT cy K ad g C.2.2.2.1 C.2.2.2.2.2.2.2 M th → Met l yX5_tie (zs yX5_tie cX5_tie 3 (some .int)) rm (va_Pc [.ref (ad 221), .int p0, .int p1] (zIn D cy K ad g sz)) (va_Qi (fun r g1 => (k = 0 → r = v) ∧ mT cy K ad g1 C2.2.2.2.1 C2.2.2.2.2.2.2.2 M2 (nI k) ∧ zFr (zRg 221 230) g g1) (zOut D cy K ad sz) (zA K ad sz)) 0 0 (zA K ad sz) := by
  obtain ⟨st, sv, nx, sz2, ns, ss, bu, ln⟩ := C
  obtain ⟨sx, so, ik, mv, tx⟩ := M
  have hA0 := hA
  obtain ⟨hst, hE, hnx, hsz, hsv, hsl, hln, hbt, hbu⟩ := hA
  dsimp only at hst hE hnx hsz hsv hsl hln hbt hbu
  have hpc := hst.pc
  have hpx := hE.pc hpc
  by_cases hb0 : p0 < 0 ∨ 7 ≤ p0
  · refine ⟨1, 0, (st, sv, nx, sz2, ns, ss, bu, ln), (sx, so, ik, mv, tx), by decide, hA0, fun {D cy K ad g} sz {w} hT hO => ?_, ({ frames := 7, cells := 0, slots := 0, locals := 161 } : Room), ⟨rfl, rfl, Nat.le_of_ble_eq_true rfl, Nat.le_of_ble_eq_true rfl⟩, fun {D cy K ad g} sz {th} hM => ?_⟩
    · have hTT : isT cy K ad g st sv nx sz2 ns ss bu ln := hT
      exact wx1_tie l sz hT hO (by rfl) (by rfl) (by exact ⟨Nat.le_of_ble_eq_true rfl, Nat.le_of_ble_eq_true rfl⟩) (fun sz => (x_X4_tie_iob l hfl sz hTT hb0).r ⟨hT, zFr.rf⟩)
    · obtain ⟨az, kn, lo, dg, hM⟩ := hM
      replace hM : isM cy K ad g 221 sx az so ik mv tx kn lo th (nI sz2) (nI ln) dg := hM
      exact z_postI (m_X5_tieb1 l sz hM hb0) (fun r g1 h => ⟨fun q => absurd q (by decide), ⟨az, kn, lo, dg, h.2.1⟩, h.2.2⟩)
  · obtain ⟨iz, hi, rfl⟩ := z_rng (b := 7) (by decide) hb0
    by_cases hn : p1 < 1 ∨ 999999 < p1
    · refine ⟨2, 0, (st, sv, nx, sz2, ns, ss, bu, ln), (sx, so, ik, mv, tx), by decide, hA0, fun {D cy K ad g} sz {w} hT hO => ?_, ({ frames := 7, cells := 0, slots := 0, locals := 161 } : Room), ⟨rfl, rfl, Nat.le_of_ble_eq_true rfl, Nat.le_of_ble_eq_true rfl⟩, fun {D cy K ad g} sz {th} hM => ?_⟩
      · have hTT : isT cy K ad g st sv nx sz2 ns ss bu ln := hT
        exact wx2_tie l sz hT hO (by rfl) (by rfl) (by exact ⟨Nat.le_of_ble_eq_true rfl, Nat.le_of_ble_eq_true rfl⟩) (fun sz => (x_X4_tie_iae l hfl sz hTT hi hn).r ⟨hT, zFr.rf⟩)
      · obtain ⟨az, kn, lo, dg, hM⟩ := hM
        replace hM : isM cy K ad g 221 sx az so ik mv tx kn lo th (nI sz2) (nI ln) dg := hM
        exact z_postI (m_X5_tieb2 l sz hM hi hn) (fun r g1 h => ⟨fun q => absurd q (by decide), ⟨az, kn, lo, dg, h.2.1⟩, h.2.2⟩)
    · have hn1 : ¬ p1 < 1 := fun q => hn (Or.inl q)
      have hn2 : p1 ≤ 999999 := Int32.not_lt.mp (fun q => hn (Or.inr q))
      have hni := num_i hn1 hn2
      refine ⟨0, tieR st iz p1, (tieS st iz p1, va_up sv nx st, (nx + 1) % 6, min (sz2 + 1) 6, ns, ss, bu, ln), (tieS sx iz p1, so, ik, svS mv sz2 sx, tx), by decide, ⟨hst.ts hi hni.1 hni.2, hE.ts hi _, Nat.mod_lt _ (by decide), Nat.min_le_right _ _, hsv.save hnx hsz hE hst, hsl, hln, hbt, hbu⟩, fun {D cy K ad g} sz {w} hT hO => ?_, ({ frames := 7, cells := 0, slots := 0, locals := 161 } : Room), ⟨rfl, rfl, Nat.le_of_ble_eq_true rfl, Nat.le_of_ble_eq_true rfl⟩, fun {D cy K ad g} sz {th} hM => ?_⟩
      · have hTT : isT cy K ad g st sv nx sz2 ns ss bu ln := hT
        exact wok_tie l sz hT hO (by rfl) (by rfl) (by exact ⟨Nat.le_of_ble_eq_true rfl, Nat.le_of_ble_eq_true rfl⟩) (fun sz => z_postI (m_X4_tie l sz hTT hi hn1 hn2 hpc hnx hsz) (fun r g1 h => h))
      · obtain ⟨az, kn, lo, dg, hM⟩ := hM
        replace hM : isM cy K ad g 221 sx az so ik mv tx kn lo th (nI sz2) (nI ln) dg := hM
        refine z_postI (m_X5_tie l sz hM hsz hi hn1 hn2 hpx) (fun r g1 h => ?_)
        obtain ⟨h1, ⟨kn2, lo2, h2⟩, h3⟩ := h
        rw [svM_min hsz] at h2
        exact ⟨fun _ => h1.trans ((hE.tR hi _).symm), ⟨az, kn2, lo2, dg, h2⟩, h3⟩
set_option maxHeartbeats 1000000 in
theorem op_whyNot (l : Launch) (hfl : l.stackTraces = false) {C : zCR} {M : zMR} (hA : AGr C M) (p0 p1 : Int32) : ∃ (k : Nat) (v : Int32) (C2 : zCR) (M2 : zMR), k < 3 ∧ AGr C2 M2 ∧ (∀ {D : va_G} {cy : Nat → ClassId} {K : Nat} {ad : Nat → Nat} {g : Nat → va_E} (sz : Nat) {w : Int64}, cT cy K ad g C → oV cy K g w → wM l yL_whyNot cL_whyNot 5 [(0, 10, 13, 13), (0, 10, 17, 15)] [.ref (ad 0), .int p0, .int p1, .ref (ad 230)] D cy K ad g sz k v C2) ∧ ∃ rm : Room, (rm.cells = 0 ∧ rm.slots = 0 ∧ rm.frames ≤ 100 ∧ rm.locals ≤ 1000) ∧ ∀ {D : va_G} {cy : Nat → ClassId} {K : Nat} {ad : Nat → Nat} {g : Nat → va_E} (sz : Nat) {th : Int32}, mT cy K ad g C.2.2.2.1 C.2.2.2.2.2.2.2 M th → Met l yX5_whyNot (zs yX5_whyNot cX5_whyNot 3 (some .int)) rm (va_Pc [.ref (ad 221), .int p0, .int p1] (zIn D cy K ad g sz)) (va_Qi (fun r g1 => (k = 0 → r = v) ∧ mT cy K ad g1 C2.2.2.2.1 C2.2.2.2.2.2.2.2 M2 (nI k) ∧ zFr (zRg 221 230) g g1) (zOut D cy K ad sz) (zA K ad sz)) 0 0 (zA K ad sz) := by
  obtain ⟨st, sv, nx, sz2, ns, ss, bu, ln⟩ := C
  obtain ⟨sx, so, ik, mv, tx⟩ := M
  have hA0 := hA
  obtain ⟨hst, hE, hnx, hsz, hsv, hsl, hln, hbt, hbu⟩ := hA
  dsimp only at hst hE hnx hsz hsv hsl hln hbt hbu
  have hpc := hst.pc
  have hpx := hE.pc hpc
  by_cases hb0 : p0 < 0 ∨ 7 ≤ p0
  · refine ⟨1, 0, (st, sv, nx, sz2, ns, ss, bu, ln), (sx, so, ik, mv, tx), by decide, hA0, fun {D cy K ad g} sz {w} hT hO => ?_, ({ frames := 6, cells := 0, slots := 0, locals := 138 } : Room), ⟨rfl, rfl, Nat.le_of_ble_eq_true rfl, Nat.le_of_ble_eq_true rfl⟩, fun {D cy K ad g} sz {th} hM => ?_⟩
    · have hTT : isT cy K ad g st sv nx sz2 ns ss bu ln := hT
      exact wx1_whyNot l sz hT hO (by rfl) (by rfl) (by exact ⟨Nat.le_of_ble_eq_true rfl, Nat.le_of_ble_eq_true rfl⟩) (fun sz => (x_X4_whyNot_iob l hfl sz hTT hb0).r ⟨hT, zFr.rf⟩)
    · obtain ⟨az, kn, lo, dg, hM⟩ := hM
      replace hM : isM cy K ad g 221 sx az so ik mv tx kn lo th (nI sz2) (nI ln) dg := hM
      exact z_postI (m_X5_whyNotb1 l sz hM hb0) (fun r g1 h => ⟨fun q => absurd q (by decide), ⟨az, kn, lo, dg, h.2.1⟩, h.2.2⟩)
  · obtain ⟨iz, hi, rfl⟩ := z_rng (b := 7) (by decide) hb0
    by_cases hn : p1 < 1 ∨ 999999 < p1
    · refine ⟨2, 0, (st, sv, nx, sz2, ns, ss, bu, ln), (sx, so, ik, mv, tx), by decide, hA0, fun {D cy K ad g} sz {w} hT hO => ?_, ({ frames := 6, cells := 0, slots := 0, locals := 138 } : Room), ⟨rfl, rfl, Nat.le_of_ble_eq_true rfl, Nat.le_of_ble_eq_true rfl⟩, fun {D cy K ad g} sz {th} hM => ?_⟩
      · have hTT : isT cy K ad g st sv nx sz2 ns ss bu ln := hT
        exact wx2_whyNot l sz hT hO (by rfl) (by rfl) (by exact ⟨Nat.le_of_ble_eq_true rfl, Nat.le_of_ble_eq_true rfl⟩) (fun sz => (x_X4_whyNot_iae l hfl sz hTT hi hn).r ⟨hT, zFr.rf⟩)
      · obtain ⟨az, kn, lo, dg, hM⟩ := hM
        replace hM : isM cy K ad g 221 sx az so ik mv tx kn lo th (nI sz2) (nI ln) dg := hM
        exact z_postI (m_X5_whyNotb2 l sz hM hi hn) (fun r g1 h => ⟨fun q => absurd q (by decide), ⟨az, kn, lo, dg, h.2.1⟩, h.2.2⟩)
    · have hn1 : ¬ p1 < 1 := fun q => hn (Or.inl q)
      have hn2 : p1 ≤ 999999 := Int32.not_lt.mp (fun q => hn (Or.inr q))
      have hni := num_i hn1 hn2
      refine ⟨0, cRop st iz p1, (st, sv, nx, sz2, ns, ss, bu, ln), (sx, so, ik, mv, tx), by decide, hA0, fun {D cy K ad g} sz {w} hT hO => ?_, ({ frames := 6, cells := 0, slots := 0, locals := 138 } : Room), ⟨rfl, rfl, Nat.le_of_ble_eq_true rfl, Nat.le_of_ble_eq_true rfl⟩, fun {D cy K ad g} sz {th} hM => ?_⟩
      · have hTT : isT cy K ad g st sv nx sz2 ns ss bu ln := hT
        exact wok_whyNot l sz hT hO (by rfl) (by rfl) (by exact ⟨Nat.le_of_ble_eq_true rfl, Nat.le_of_ble_eq_true rfl⟩) (fun sz => z_postI (m_X4_whyNot l sz hTT hi hn1 hn2 hpc) (fun r g1 h => ⟨h.2, by rw [h.1]; exact hT, by rw [h.1]; exact zFr.rf⟩))
      · obtain ⟨az, kn, lo, dg, hM⟩ := hM
        replace hM : isM cy K ad g 221 sx az so ik mv tx kn lo th (nI sz2) (nI ln) dg := hM
        refine z_postI (m_X5_whyNot l sz hM hi hn1 hn2 hpx) (fun r g1 h => ?_)
        obtain ⟨h1, ⟨kn2, lo2, h2⟩, h3⟩ := h
        exact ⟨fun _ => h1.trans ((hE.ro hi _).symm), ⟨az, kn2, lo2, dg, h2⟩, h3⟩
set_option maxHeartbeats 1000000 in
theorem op_howOften (l : Launch) (hfl : l.stackTraces = false) {C : zCR} {M : zMR} (hA : AGr C M) (p0 p1 : Int32) : ∃ (k : Nat) (v : Int32) (C2 : zCR) (M2 : zMR), k < 3 ∧ AGr C2 M2 ∧ (∀ {D : va_G} {cy : Nat → ClassId} {K : Nat} {ad : Nat → Nat} {g : Nat → va_E} (sz : Nat) {w : Int64}, cT cy K ad g C → oV cy K g w → wM l yL_howOften cL_howOften 5 [(0, 10, 13, 13), (0, 10, 17, 15)] [.ref (ad 0), .int p0, .int p1, .ref (ad 230)] D cy K ad g sz k v C2) ∧ ∃ rm : Room, (rm.cells = 0 ∧ rm.slots = 0 ∧ rm.frames ≤ 100 ∧ rm.locals ≤ 1000) ∧ ∀ {D : va_G} {cy : Nat → ClassId} {K : Nat} {ad : Nat → Nat} {g : Nat → va_E} (sz : Nat) {th : Int32}, mT cy K ad g C.2.2.2.1 C.2.2.2.2.2.2.2 M th → Met l yX5_howOften (zs yX5_howOften cX5_howOften 3 (some .int)) rm (va_Pc [.ref (ad 221), .int p0, .int p1] (zIn D cy K ad g sz)) (va_Qi (fun r g1 => (k = 0 → r = v) ∧ mT cy K ad g1 C2.2.2.2.1 C2.2.2.2.2.2.2.2 M2 (nI k) ∧ zFr (zRg 221 230) g g1) (zOut D cy K ad sz) (zA K ad sz)) 0 0 (zA K ad sz) := by
  obtain ⟨st, sv, nx, sz2, ns, ss, bu, ln⟩ := C
  obtain ⟨sx, so, ik, mv, tx⟩ := M
  have hA0 := hA
  obtain ⟨hst, hE, hnx, hsz, hsv, hsl, hln, hbt, hbu⟩ := hA
  dsimp only at hst hE hnx hsz hsv hsl hln hbt hbu
  have hpc := hst.pc
  have hpx := hE.pc hpc
  by_cases hb0 : p0 < 0 ∨ 7 ≤ p0
  · refine ⟨1, 0, (st, sv, nx, sz2, ns, ss, bu, ln), (sx, so, ik, mv, tx), by decide, hA0, fun {D cy K ad g} sz {w} hT hO => ?_, ({ frames := 8, cells := 0, slots := 0, locals := 184 } : Room), ⟨rfl, rfl, Nat.le_of_ble_eq_true rfl, Nat.le_of_ble_eq_true rfl⟩, fun {D cy K ad g} sz {th} hM => ?_⟩
    · have hTT : isT cy K ad g st sv nx sz2 ns ss bu ln := hT
      exact wx1_howOften l sz hT hO (by rfl) (by rfl) (by exact ⟨Nat.le_of_ble_eq_true rfl, Nat.le_of_ble_eq_true rfl⟩) (fun sz => (x_X4_howOften_iob l hfl sz hTT hb0).r ⟨hT, zFr.rf⟩)
    · obtain ⟨az, kn, lo, dg, hM⟩ := hM
      replace hM : isM cy K ad g 221 sx az so ik mv tx kn lo th (nI sz2) (nI ln) dg := hM
      exact z_postI (m_X5_howOftenb1 l sz hM hb0) (fun r g1 h => ⟨fun q => absurd q (by decide), ⟨az, kn, lo, dg, h.2.1⟩, h.2.2⟩)
  · obtain ⟨iz, hi, rfl⟩ := z_rng (b := 7) (by decide) hb0
    by_cases hn : p1 < 1 ∨ 999999 < p1
    · refine ⟨2, 0, (st, sv, nx, sz2, ns, ss, bu, ln), (sx, so, ik, mv, tx), by decide, hA0, fun {D cy K ad g} sz {w} hT hO => ?_, ({ frames := 8, cells := 0, slots := 0, locals := 184 } : Room), ⟨rfl, rfl, Nat.le_of_ble_eq_true rfl, Nat.le_of_ble_eq_true rfl⟩, fun {D cy K ad g} sz {th} hM => ?_⟩
      · have hTT : isT cy K ad g st sv nx sz2 ns ss bu ln := hT
        exact wx2_howOften l sz hT hO (by rfl) (by rfl) (by exact ⟨Nat.le_of_ble_eq_true rfl, Nat.le_of_ble_eq_true rfl⟩) (fun sz => (x_X4_howOften_iae l hfl sz hTT hi hn).r ⟨hT, zFr.rf⟩)
      · obtain ⟨az, kn, lo, dg, hM⟩ := hM
        replace hM : isM cy K ad g 221 sx az so ik mv tx kn lo th (nI sz2) (nI ln) dg := hM
        exact z_postI (m_X5_howOftenb2 l sz hM hi hn) (fun r g1 h => ⟨fun q => absurd q (by decide), ⟨az, kn, lo, dg, h.2.1⟩, h.2.2⟩)
    · have hn1 : ¬ p1 < 1 := fun q => hn (Or.inl q)
      have hn2 : p1 ≤ 999999 := Int32.not_lt.mp (fun q => hn (Or.inr q))
      have hni := num_i hn1 hn2
      refine ⟨0, nI (hoN p1 (st 5) 16 (fK st iz) (fL st iz) (cm st iz)), (st, sv, nx, sz2, ns, ss, bu, ln), (sx, so, ik, mv, tx), by decide, hA0, fun {D cy K ad g} sz {w} hT hO => ?_, ({ frames := 8, cells := 0, slots := 0, locals := 184 } : Room), ⟨rfl, rfl, Nat.le_of_ble_eq_true rfl, Nat.le_of_ble_eq_true rfl⟩, fun {D cy K ad g} sz {th} hM => ?_⟩
      · have hTT : isT cy K ad g st sv nx sz2 ns ss bu ln := hT
        exact wok_howOften l sz hT hO (by rfl) (by rfl) (by exact ⟨Nat.le_of_ble_eq_true rfl, Nat.le_of_ble_eq_true rfl⟩) (fun sz => z_postI (m_X4_howOften l sz hTT hi hn1 hn2 hpc) (fun r g1 h => h))
      · obtain ⟨az, kn, lo, dg, hM⟩ := hM
        replace hM : isM cy K ad g 221 sx az so ik mv tx kn lo th (nI sz2) (nI ln) dg := hM
        refine z_postI (m_X5_howOften l sz hM hi hn1 hn2 hpx ((hst.sE hE).hge hi hni.1 hni.2)) (fun r g1 h => ?_)
        obtain ⟨h1, ⟨az2, kn2, lo2, h2⟩, h3⟩ := h
        exact ⟨fun _ => h1.trans (congrArg nI ((hoM_16 (hpx iz hi).2).trans (hE.hoN' hi _ _).symm)), ⟨az2, kn2, lo2, dg, h2⟩, h3⟩
set_option maxHeartbeats 1000000 in
theorem op_add (l : Launch) (hfl : l.stackTraces = false) {C : zCR} {M : zMR} (hA : AGr C M) (p0 p1 : Int32) : ∃ (k : Nat) (v : Int32) (C2 : zCR) (M2 : zMR), k < 3 ∧ AGr C2 M2 ∧ (∀ {D : va_G} {cy : Nat → ClassId} {K : Nat} {ad : Nat → Nat} {g : Nat → va_E} (sz : Nat) {w : Int64}, cT cy K ad g C → oV cy K g w → wM l yL_add cL_add 5 [(0, 10, 13, 13), (0, 10, 17, 15)] [.ref (ad 0), .int p0, .int p1, .ref (ad 230)] D cy K ad g sz k v C2) ∧ ∃ rm : Room, (rm.cells = 0 ∧ rm.slots = 0 ∧ rm.frames ≤ 100 ∧ rm.locals ≤ 1000) ∧ ∀ {D : va_G} {cy : Nat → ClassId} {K : Nat} {ad : Nat → Nat} {g : Nat → va_E} (sz : Nat) {th : Int32}, mT cy K ad g C.2.2.2.1 C.2.2.2.2.2.2.2 M th → Met l yX5_add (zs yX5_add cX5_add 3 (some .int)) rm (va_Pc [.ref (ad 221), .int p0, .int p1] (zIn D cy K ad g sz)) (va_Qi (fun r g1 => (k = 0 → r = v) ∧ mT cy K ad g1 C2.2.2.2.1 C2.2.2.2.2.2.2.2 M2 (nI k) ∧ zFr (zRg 221 230) g g1) (zOut D cy K ad sz) (zA K ad sz)) 0 0 (zA K ad sz) := by
  obtain ⟨st, sv, nx, sz2, ns, ss, bu, ln⟩ := C
  obtain ⟨sx, so, ik, mv, tx⟩ := M
  have hA0 := hA
  obtain ⟨hst, hE, hnx, hsz, hsv, hsl, hln, hbt, hbu⟩ := hA
  dsimp only at hst hE hnx hsz hsv hsl hln hbt hbu
  have hpc := hst.pc
  have hpx := hE.pc hpc
  by_cases hb0 : p0 < 0 ∨ 7 ≤ p0
  · refine ⟨1, 0, (st, sv, nx, sz2, ns, ss, bu, ln), (sx, so, ik, mv, tx), by decide, hA0, fun {D cy K ad g} sz {w} hT hO => ?_, ({ frames := 8, cells := 0, slots := 0, locals := 183 } : Room), ⟨rfl, rfl, Nat.le_of_ble_eq_true rfl, Nat.le_of_ble_eq_true rfl⟩, fun {D cy K ad g} sz {th} hM => ?_⟩
    · have hTT : isT cy K ad g st sv nx sz2 ns ss bu ln := hT
      exact wx1_add l sz hT hO (by rfl) (by rfl) (by exact ⟨Nat.le_of_ble_eq_true rfl, Nat.le_of_ble_eq_true rfl⟩) (fun sz => (x_X4_add_iob l hfl sz hTT hb0).r ⟨hT, zFr.rf⟩)
    · obtain ⟨az, kn, lo, dg, hM⟩ := hM
      replace hM : isM cy K ad g 221 sx az so ik mv tx kn lo th (nI sz2) (nI ln) dg := hM
      exact z_postI (m_X5_addb1 l sz hM hb0) (fun r g1 h => ⟨fun q => absurd q (by decide), ⟨az, kn, lo, dg, h.2.1⟩, h.2.2⟩)
  · obtain ⟨iz, hi, rfl⟩ := z_rng (b := 7) (by decide) hb0
    by_cases hb1 : p1 < 0 ∨ 7 ≤ p1
    · refine ⟨1, 0, (st, sv, nx, sz2, ns, ss, bu, ln), (sx, so, ik, mv, tx), by decide, hA0, fun {D cy K ad g} sz {w} hT hO => ?_, ({ frames := 8, cells := 0, slots := 0, locals := 183 } : Room), ⟨rfl, rfl, Nat.le_of_ble_eq_true rfl, Nat.le_of_ble_eq_true rfl⟩, fun {D cy K ad g} sz {th} hM => ?_⟩
      · have hTT : isT cy K ad g st sv nx sz2 ns ss bu ln := hT
        exact wx1_add l sz hT hO (by rfl) (by rfl) (by exact ⟨Nat.le_of_ble_eq_true rfl, Nat.le_of_ble_eq_true rfl⟩) (fun sz => (x_X4_add_iob2 l hfl sz hTT hi hb1).r ⟨hT, zFr.rf⟩)
      · obtain ⟨az, kn, lo, dg, hM⟩ := hM
        replace hM : isM cy K ad g 221 sx az so ik mv tx kn lo th (nI sz2) (nI ln) dg := hM
        exact z_postI (m_X5_addb2 l sz hM hi hb1) (fun r g1 h => ⟨fun q => absurd q (by decide), ⟨az, kn, lo, dg, h.2.1⟩, h.2.2⟩)
    · obtain ⟨jz, hj, rfl⟩ := z_rng (b := 7) (by decide) hb1
      by_cases hij : iz = jz
      · subst hij
        refine ⟨2, 0, (st, sv, nx, sz2, ns, ss, bu, ln), (sx, so, ik, mv, tx), by decide, hA0, fun {D cy K ad g} sz {w} hT hO => ?_, ({ frames := 8, cells := 0, slots := 0, locals := 183 } : Room), ⟨rfl, rfl, Nat.le_of_ble_eq_true rfl, Nat.le_of_ble_eq_true rfl⟩, fun {D cy K ad g} sz {th} hM => ?_⟩
        · have hTT : isT cy K ad g st sv nx sz2 ns ss bu ln := hT
          exact wx2_add l sz hT hO (by rfl) (by rfl) (by exact ⟨Nat.le_of_ble_eq_true rfl, Nat.le_of_ble_eq_true rfl⟩) (fun sz => (x_X4_add_iae l hfl sz hTT hi).r ⟨hT, zFr.rf⟩)
        · obtain ⟨az, kn, lo, dg, hM⟩ := hM
          replace hM : isM cy K ad g 221 sx az so ik mv tx kn lo th (nI sz2) (nI ln) dg := hM
          exact z_postI (m_X5_addb3 l sz hM hi) (fun r g1 h => ⟨fun q => absurd q (by decide), ⟨az, kn, lo, dg, h.2.1⟩, h.2.2⟩)
      · refine ⟨0, addR st iz jz, (addS st iz jz, va_up sv nx st, (nx + 1) % 6, min (sz2 + 1) 6, ns, ss, bu, ln), (addS sx iz jz, so, ik, svS mv sz2 sx, tx), by decide, ⟨hst.as hi hj, hE.as hi hj, Nat.mod_lt _ (by decide), Nat.min_le_right _ _, hsv.save hnx hsz hE hst, hsl, hln, hbt, hbu⟩, fun {D cy K ad g} sz {w} hT hO => ?_, ({ frames := 8, cells := 0, slots := 0, locals := 183 } : Room), ⟨rfl, rfl, Nat.le_of_ble_eq_true rfl, Nat.le_of_ble_eq_true rfl⟩, fun {D cy K ad g} sz {th} hM => ?_⟩
        · have hTT : isT cy K ad g st sv nx sz2 ns ss bu ln := hT
          exact wok_add l sz hT hO (by rfl) (by rfl) (by exact ⟨Nat.le_of_ble_eq_true rfl, Nat.le_of_ble_eq_true rfl⟩) (fun sz => z_postI (m_X4_add l sz hTT hi hj hij hpc hnx hsz) (fun r g1 h => h))
        · obtain ⟨az, kn, lo, dg, hM⟩ := hM
          replace hM : isM cy K ad g 221 sx az so ik mv tx kn lo th (nI sz2) (nI ln) dg := hM
          refine z_postI (m_X5_add l sz hM hsz hi hj hij hpx) (fun r g1 h => ?_)
          obtain ⟨h1, ⟨kn2, lo2, h2⟩, h3⟩ := h
          rw [svM_min hsz] at h2
          exact ⟨fun _ => h1.trans ((hE.aR hi hj).symm), ⟨az, kn2, lo2, dg, h2⟩, h3⟩
set_option maxHeartbeats 1000000 in
theorem op_slip (l : Launch) (hfl : l.stackTraces = false) {C : zCR} {M : zMR} (hA : AGr C M) (p0 p1 : Int32) : ∃ (k : Nat) (v : Int32) (C2 : zCR) (M2 : zMR), k < 3 ∧ AGr C2 M2 ∧ (∀ {D : va_G} {cy : Nat → ClassId} {K : Nat} {ad : Nat → Nat} {g : Nat → va_E} (sz : Nat) {w : Int64}, cT cy K ad g C → oV cy K g w → wM l yL_slip cL_slip 5 [(0, 10, 13, 13)] [.ref (ad 0), .int p0, .int p1, .ref (ad 230)] D cy K ad g sz k v C2) ∧ ∃ rm : Room, (rm.cells = 0 ∧ rm.slots = 0 ∧ rm.frames ≤ 100 ∧ rm.locals ≤ 1000) ∧ ∀ {D : va_G} {cy : Nat → ClassId} {K : Nat} {ad : Nat → Nat} {g : Nat → va_E} (sz : Nat) {th : Int32}, mT cy K ad g C.2.2.2.1 C.2.2.2.2.2.2.2 M th → Met l yX5_slip (zs yX5_slip cX5_slip 3 (some .int)) rm (va_Pc [.ref (ad 221), .int p0, .int p1] (zIn D cy K ad g sz)) (va_Qi (fun r g1 => (k = 0 → r = v) ∧ mT cy K ad g1 C2.2.2.2.1 C2.2.2.2.2.2.2.2 M2 (nI k) ∧ zFr (zRg 221 230) g g1) (zOut D cy K ad sz) (zA K ad sz)) 0 0 (zA K ad sz) := by
  obtain ⟨st, sv, nx, sz2, ns, ss, bu, ln⟩ := C
  obtain ⟨sx, so, ik, mv, tx⟩ := M
  have hA0 := hA
  obtain ⟨hst, hE, hnx, hsz, hsv, hsl, hln, hbt, hbu⟩ := hA
  dsimp only at hst hE hnx hsz hsv hsl hln hbt hbu
  have hpc := hst.pc
  have hpx := hE.pc hpc
  by_cases hb0 : p0 < 0 ∨ 7 ≤ p0
  · refine ⟨1, 0, (st, sv, nx, sz2, ns, ss, bu, ln), (sx, so, ik, mv, tx), by decide, hA0, fun {D cy K ad g} sz {w} hT hO => ?_, ({ frames := 4, cells := 0, slots := 0, locals := 87 } : Room), ⟨rfl, rfl, Nat.le_of_ble_eq_true rfl, Nat.le_of_ble_eq_true rfl⟩, fun {D cy K ad g} sz {th} hM => ?_⟩
    · have hTT : isT cy K ad g st sv nx sz2 ns ss bu ln := hT
      exact wx1_slip l sz hT hO (by rfl) (by rfl) (by exact ⟨Nat.le_of_ble_eq_true rfl, Nat.le_of_ble_eq_true rfl⟩) (fun sz => (x_X4_slip_iob l hfl sz hTT hb0).r ⟨hT, zFr.rf⟩)
    · obtain ⟨az, kn, lo, dg, hM⟩ := hM
      replace hM : isM cy K ad g 221 sx az so ik mv tx kn lo th (nI sz2) (nI ln) dg := hM
      exact z_postI (m_X5_slipb1 l sz hM hb0) (fun r g1 h => ⟨fun q => absurd q (by decide), ⟨az, kn, lo, dg, h.2.1⟩, h.2.2⟩)
  · obtain ⟨iz, hi, rfl⟩ := z_rng (b := 7) (by decide) hb0
    by_cases hb1 : p1 < 0 ∨ 6 ≤ p1
    · refine ⟨1, 0, (st, sv, nx, sz2, ns, ss, bu, ln), (sx, so, ik, mv, tx), by decide, hA0, fun {D cy K ad g} sz {w} hT hO => ?_, ({ frames := 4, cells := 0, slots := 0, locals := 87 } : Room), ⟨rfl, rfl, Nat.le_of_ble_eq_true rfl, Nat.le_of_ble_eq_true rfl⟩, fun {D cy K ad g} sz {th} hM => ?_⟩
      · have hTT : isT cy K ad g st sv nx sz2 ns ss bu ln := hT
        exact wx1_slip l sz hT hO (by rfl) (by rfl) (by exact ⟨Nat.le_of_ble_eq_true rfl, Nat.le_of_ble_eq_true rfl⟩) (fun sz => (x_X4_slip_iob2 l hfl sz hTT hi hb1).r ⟨hT, zFr.rf⟩)
      · obtain ⟨az, kn, lo, dg, hM⟩ := hM
        replace hM : isM cy K ad g 221 sx az so ik mv tx kn lo th (nI sz2) (nI ln) dg := hM
        exact z_postI (m_X5_slipb2 l sz hM hi hb1) (fun r g1 h => ⟨fun q => absurd q (by decide), ⟨az, kn, lo, dg, h.2.1⟩, h.2.2⟩)
    · obtain ⟨jz, hj, rfl⟩ := z_rng (b := 6) (by decide) hb1
      refine ⟨0, slipR st iz jz, (slipS st iz jz, va_up sv nx st, (nx + 1) % 6, min (sz2 + 1) 6, ns, ss, bu, ln), (slipS sx iz jz, so, ik, svS mv sz2 sx, tx), by decide, ⟨hst.ss hi hj, hE.ss hi hj, Nat.mod_lt _ (by decide), Nat.min_le_right _ _, hsv.save hnx hsz hE hst, hsl, hln, hbt, hbu⟩, fun {D cy K ad g} sz {w} hT hO => ?_, ({ frames := 4, cells := 0, slots := 0, locals := 87 } : Room), ⟨rfl, rfl, Nat.le_of_ble_eq_true rfl, Nat.le_of_ble_eq_true rfl⟩, fun {D cy K ad g} sz {th} hM => ?_⟩
      · have hTT : isT cy K ad g st sv nx sz2 ns ss bu ln := hT
        exact wok_slip l sz hT hO (by rfl) (by rfl) (by exact ⟨Nat.le_of_ble_eq_true rfl, Nat.le_of_ble_eq_true rfl⟩) (fun sz => z_postI (m_X4_slip l sz hTT hi hj hnx hsz) (fun r g1 h => h))
      · obtain ⟨az, kn, lo, dg, hM⟩ := hM
        replace hM : isM cy K ad g 221 sx az so ik mv tx kn lo th (nI sz2) (nI ln) dg := hM
        refine z_postI (m_X5_slip l sz hM hsz hi hj) (fun r g1 h => ?_)
        obtain ⟨h1, h2, h3⟩ := h
        rw [svM_min hsz] at h2
        exact ⟨fun _ => h1.trans ((hE.sR hi hj).symm), ⟨az, kn, lo, dg, h2⟩, h3⟩
set_option maxHeartbeats 1000000 in
theorem op_mend (l : Launch) (hfl : l.stackTraces = false) {C : zCR} {M : zMR} (hA : AGr C M) (p0 : Int32) : ∃ (k : Nat) (v : Int32) (C2 : zCR) (M2 : zMR), k < 3 ∧ AGr C2 M2 ∧ (∀ {D : va_G} {cy : Nat → ClassId} {K : Nat} {ad : Nat → Nat} {g : Nat → va_E} (sz : Nat) {w : Int64}, cT cy K ad g C → oV cy K g w → wM l yL_mend cL_mend 4 [(0, 9, 12, 13)] [.ref (ad 0), .int p0, .ref (ad 230)] D cy K ad g sz k v C2) ∧ ∃ rm : Room, (rm.cells = 0 ∧ rm.slots = 0 ∧ rm.frames ≤ 100 ∧ rm.locals ≤ 1000) ∧ ∀ {D : va_G} {cy : Nat → ClassId} {K : Nat} {ad : Nat → Nat} {g : Nat → va_E} (sz : Nat) {th : Int32}, mT cy K ad g C.2.2.2.1 C.2.2.2.2.2.2.2 M th → Met l yX5_mend (zs yX5_mend cX5_mend 2 (some .int)) rm (va_Pc [.ref (ad 221), .int p0] (zIn D cy K ad g sz)) (va_Qi (fun r g1 => (k = 0 → r = v) ∧ mT cy K ad g1 C2.2.2.2.1 C2.2.2.2.2.2.2.2 M2 (nI k) ∧ zFr (zRg 221 230) g g1) (zOut D cy K ad sz) (zA K ad sz)) 0 0 (zA K ad sz) := by
  obtain ⟨st, sv, nx, sz2, ns, ss, bu, ln⟩ := C
  obtain ⟨sx, so, ik, mv, tx⟩ := M
  have hA0 := hA
  obtain ⟨hst, hE, hnx, hsz, hsv, hsl, hln, hbt, hbu⟩ := hA
  dsimp only at hst hE hnx hsz hsv hsl hln hbt hbu
  have hpc := hst.pc
  have hpx := hE.pc hpc
  by_cases hb0 : p0 < 0 ∨ 7 ≤ p0
  · refine ⟨1, 0, (st, sv, nx, sz2, ns, ss, bu, ln), (sx, so, ik, mv, tx), by decide, hA0, fun {D cy K ad g} sz {w} hT hO => ?_, ({ frames := 6, cells := 0, slots := 0, locals := 140 } : Room), ⟨rfl, rfl, Nat.le_of_ble_eq_true rfl, Nat.le_of_ble_eq_true rfl⟩, fun {D cy K ad g} sz {th} hM => ?_⟩
    · have hTT : isT cy K ad g st sv nx sz2 ns ss bu ln := hT
      exact wx1_mend l sz hT hO (by rfl) (by rfl) (by exact ⟨Nat.le_of_ble_eq_true rfl, Nat.le_of_ble_eq_true rfl⟩) (fun sz => (x_X4_mend_iob l hfl sz hTT hb0).r ⟨hT, zFr.rf⟩)
    · obtain ⟨az, kn, lo, dg, hM⟩ := hM
      replace hM : isM cy K ad g 221 sx az so ik mv tx kn lo th (nI sz2) (nI ln) dg := hM
      exact z_postI (m_X5_mendb1 l sz hM hb0) (fun r g1 h => ⟨fun q => absurd q (by decide), ⟨az, kn, lo, dg, h.2.1⟩, h.2.2⟩)
  · obtain ⟨iz, hi, rfl⟩ := z_rng (b := 7) (by decide) hb0
    refine ⟨0, mendR st iz, (mendS st iz, va_up sv nx st, (nx + 1) % 6, min (sz2 + 1) 6, ns, ss, bu, ln), (mendS sx iz, so, ik, svS mv sz2 sx, tx), by decide, ⟨hst.ms hi, hE.ms hpc hi, Nat.mod_lt _ (by decide), Nat.min_le_right _ _, hsv.save hnx hsz hE hst, hsl, hln, hbt, hbu⟩, fun {D cy K ad g} sz {w} hT hO => ?_, ({ frames := 6, cells := 0, slots := 0, locals := 140 } : Room), ⟨rfl, rfl, Nat.le_of_ble_eq_true rfl, Nat.le_of_ble_eq_true rfl⟩, fun {D cy K ad g} sz {th} hM => ?_⟩
    · have hTT : isT cy K ad g st sv nx sz2 ns ss bu ln := hT
      exact wok_mend l sz hT hO (by rfl) (by rfl) (by exact ⟨Nat.le_of_ble_eq_true rfl, Nat.le_of_ble_eq_true rfl⟩) (fun sz => z_postI (m_X4_mend l sz hTT hi hpc hnx hsz) (fun r g1 h => h))
    · obtain ⟨az, kn, lo, dg, hM⟩ := hM
      replace hM : isM cy K ad g 221 sx az so ik mv tx kn lo th (nI sz2) (nI ln) dg := hM
      refine z_postI (m_X5_mend l sz hM hsz hi hpx) (fun r g1 h => ?_)
      obtain ⟨h1, ⟨kn2, lo2, h2⟩, h3⟩ := h
      rw [svM_min hsz] at h2
      exact ⟨fun _ => h1.trans ((hE.mR hpc hi).symm), ⟨az, kn2, lo2, dg, h2⟩, h3⟩
set_option maxHeartbeats 1000000 in
theorem op_renew (l : Launch) (hfl : l.stackTraces = false) {C : zCR} {M : zMR} (hA : AGr C M) (p0 : Int32) : ∃ (k : Nat) (v : Int32) (C2 : zCR) (M2 : zMR), k < 3 ∧ AGr C2 M2 ∧ (∀ {D : va_G} {cy : Nat → ClassId} {K : Nat} {ad : Nat → Nat} {g : Nat → va_E} (sz : Nat) {w : Int64}, cT cy K ad g C → oV cy K g w → wM l yL_renew cL_renew 4 [(0, 9, 12, 13)] [.ref (ad 0), .int p0, .ref (ad 230)] D cy K ad g sz k v C2) ∧ ∃ rm : Room, (rm.cells = 0 ∧ rm.slots = 0 ∧ rm.frames ≤ 100 ∧ rm.locals ≤ 1000) ∧ ∀ {D : va_G} {cy : Nat → ClassId} {K : Nat} {ad : Nat → Nat} {g : Nat → va_E} (sz : Nat) {th : Int32}, mT cy K ad g C.2.2.2.1 C.2.2.2.2.2.2.2 M th → Met l yX5_renew (zs yX5_renew cX5_renew 4 (some .int)) rm (va_Pc [.ref (ad 221), .int p0] (zIn D cy K ad g sz)) (va_Qi (fun r g1 => (k = 0 → r = v) ∧ mT cy K ad g1 C2.2.2.2.1 C2.2.2.2.2.2.2.2 M2 (nI k) ∧ zFr (zRg 221 230) g g1) (zOut D cy K ad sz) (zA K ad sz)) 0 0 (zA K ad sz) := by
  obtain ⟨st, sv, nx, sz2, ns, ss, bu, ln⟩ := C
  obtain ⟨sx, so, ik, mv, tx⟩ := M
  have hA0 := hA
  obtain ⟨hst, hE, hnx, hsz, hsv, hsl, hln, hbt, hbu⟩ := hA
  dsimp only at hst hE hnx hsz hsv hsl hln hbt hbu
  have hpc := hst.pc
  have hpx := hE.pc hpc
  by_cases hb0 : p0 < 0 ∨ 7 ≤ p0
  · refine ⟨1, 0, (st, sv, nx, sz2, ns, ss, bu, ln), (sx, so, ik, mv, tx), by decide, hA0, fun {D cy K ad g} sz {w} hT hO => ?_, ({ frames := 4, cells := 0, slots := 0, locals := 88 } : Room), ⟨rfl, rfl, Nat.le_of_ble_eq_true rfl, Nat.le_of_ble_eq_true rfl⟩, fun {D cy K ad g} sz {th} hM => ?_⟩
    · have hTT : isT cy K ad g st sv nx sz2 ns ss bu ln := hT
      exact wx1_renew l sz hT hO (by rfl) (by rfl) (by exact ⟨Nat.le_of_ble_eq_true rfl, Nat.le_of_ble_eq_true rfl⟩) (fun sz => (x_X4_renew_iob l hfl sz hTT hb0).r ⟨hT, zFr.rf⟩)
    · obtain ⟨az, kn, lo, dg, hM⟩ := hM
      replace hM : isM cy K ad g 221 sx az so ik mv tx kn lo th (nI sz2) (nI ln) dg := hM
      exact z_postI (m_X5_renewb1 l sz hM hb0) (fun r g1 h => ⟨fun q => absurd q (by decide), ⟨az, kn, lo, dg, h.2.1⟩, h.2.2⟩)
  · obtain ⟨iz, hi, rfl⟩ := z_rng (b := 7) (by decide) hb0
    refine ⟨0, cTold st iz, (renF st iz, va_up sv nx st, (nx + 1) % 6, min (sz2 + 1) 6, ns, ss, bu, ln), (renM sx iz, so, ik, svS mv sz2 sx, tx), by decide, ⟨hst.rn hi, hE.rn hi, Nat.mod_lt _ (by decide), Nat.min_le_right _ _, hsv.save hnx hsz hE hst, hsl, hln, hbt, hbu⟩, fun {D cy K ad g} sz {w} hT hO => ?_, ({ frames := 4, cells := 0, slots := 0, locals := 88 } : Room), ⟨rfl, rfl, Nat.le_of_ble_eq_true rfl, Nat.le_of_ble_eq_true rfl⟩, fun {D cy K ad g} sz {th} hM => ?_⟩
    · have hTT : isT cy K ad g st sv nx sz2 ns ss bu ln := hT
      exact wok_renew l sz hT hO (by rfl) (by rfl) (by exact ⟨Nat.le_of_ble_eq_true rfl, Nat.le_of_ble_eq_true rfl⟩) (fun sz => z_postI (m_X4_renew l sz hTT hi hnx hsz) (fun r g1 h => h))
    · obtain ⟨az, kn, lo, dg, hM⟩ := hM
      replace hM : isM cy K ad g 221 sx az so ik mv tx kn lo th (nI sz2) (nI ln) dg := hM
      refine z_postI (m_X5_renew l sz hM hsz hi) (fun r g1 h => ?_)
      obtain ⟨h1, h2, h3⟩ := h
      rw [svM_min hsz] at h2
      exact ⟨fun _ => h1.trans ((hE.to hi).symm), ⟨az, kn, lo, dg, h2⟩, h3⟩
set_option maxHeartbeats 1000000 in
theorem op_dye (l : Launch) (hfl : l.stackTraces = false) {C : zCR} {M : zMR} (hA : AGr C M) (p0 p1 : Int32) : ∃ (k : Nat) (v : Int32) (C2 : zCR) (M2 : zMR), k < 3 ∧ AGr C2 M2 ∧ (∀ {D : va_G} {cy : Nat → ClassId} {K : Nat} {ad : Nat → Nat} {g : Nat → va_E} (sz : Nat) {w : Int64}, cT cy K ad g C → oV cy K g w → wM l yL_dye cL_dye 5 [(0, 10, 13, 13), (0, 10, 17, 15)] [.ref (ad 0), .int p0, .int p1, .ref (ad 230)] D cy K ad g sz k v C2) ∧ ∃ rm : Room, (rm.cells = 0 ∧ rm.slots = 0 ∧ rm.frames ≤ 100 ∧ rm.locals ≤ 1000) ∧ ∀ {D : va_G} {cy : Nat → ClassId} {K : Nat} {ad : Nat → Nat} {g : Nat → va_E} (sz : Nat) {th : Int32}, mT cy K ad g C.2.2.2.1 C.2.2.2.2.2.2.2 M th → Met l yX5_dye (zs yX5_dye cX5_dye 3 (some .int)) rm (va_Pc [.ref (ad 221), .int p0, .int p1] (zIn D cy K ad g sz)) (va_Qi (fun r g1 => (k = 0 → r = v) ∧ mT cy K ad g1 C2.2.2.2.1 C2.2.2.2.2.2.2.2 M2 (nI k) ∧ zFr (zRg 221 230) g g1) (zOut D cy K ad sz) (zA K ad sz)) 0 0 (zA K ad sz) := by
  obtain ⟨st, sv, nx, sz2, ns, ss, bu, ln⟩ := C
  obtain ⟨sx, so, ik, mv, tx⟩ := M
  have hA0 := hA
  obtain ⟨hst, hE, hnx, hsz, hsv, hsl, hln, hbt, hbu⟩ := hA
  dsimp only at hst hE hnx hsz hsv hsl hln hbt hbu
  have hpc := hst.pc
  have hpx := hE.pc hpc
  by_cases hb0 : p0 < 0 ∨ 7 ≤ p0
  · refine ⟨1, 0, (st, sv, nx, sz2, ns, ss, bu, ln), (sx, so, ik, mv, tx), by decide, hA0, fun {D cy K ad g} sz {w} hT hO => ?_, ({ frames := 2, cells := 0, slots := 0, locals := 44 } : Room), ⟨rfl, rfl, Nat.le_of_ble_eq_true rfl, Nat.le_of_ble_eq_true rfl⟩, fun {D cy K ad g} sz {th} hM => ?_⟩
    · have hTT : isT cy K ad g st sv nx sz2 ns ss bu ln := hT
      exact wx1_dye l sz hT hO (by rfl) (by rfl) (by exact ⟨Nat.le_of_ble_eq_true rfl, Nat.le_of_ble_eq_true rfl⟩) (fun sz => (x_X4_dye_iob l hfl sz hTT hb0).r ⟨hT, zFr.rf⟩)
    · obtain ⟨az, kn, lo, dg, hM⟩ := hM
      replace hM : isM cy K ad g 221 sx az so ik mv tx kn lo th (nI sz2) (nI ln) dg := hM
      exact z_postI (m_X5_dyeb1 l sz hM hb0) (fun r g1 h => ⟨fun q => absurd q (by decide), ⟨az, kn, lo, dg, h.2.1⟩, h.2.2⟩)
  · obtain ⟨iz, hi, rfl⟩ := z_rng (b := 7) (by decide) hb0
    by_cases hb1 : p1 < 0 ∨ 6 ≤ p1
    · refine ⟨2, 0, (st, sv, nx, sz2, ns, ss, bu, ln), (sx, so, ik, mv, tx), by decide, hA0, fun {D cy K ad g} sz {w} hT hO => ?_, ({ frames := 2, cells := 0, slots := 0, locals := 44 } : Room), ⟨rfl, rfl, Nat.le_of_ble_eq_true rfl, Nat.le_of_ble_eq_true rfl⟩, fun {D cy K ad g} sz {th} hM => ?_⟩
      · have hTT : isT cy K ad g st sv nx sz2 ns ss bu ln := hT
        exact wx2_dye l sz hT hO (by rfl) (by rfl) (by exact ⟨Nat.le_of_ble_eq_true rfl, Nat.le_of_ble_eq_true rfl⟩) (fun sz => (x_X4_dye_iae l hfl sz hTT hi hb1).r ⟨hT, zFr.rf⟩)
      · obtain ⟨az, kn, lo, dg, hM⟩ := hM
        replace hM : isM cy K ad g 221 sx az so ik mv tx kn lo th (nI sz2) (nI ln) dg := hM
        exact z_postI (m_X5_dyeb2 l sz hM hi hb1) (fun r g1 h => ⟨fun q => absurd q (by decide), ⟨az, kn, lo, dg, h.2.1⟩, h.2.2⟩)
    · have hu1 : ¬ p1 < 0 := fun q => hb1 (Or.inl q)
      have hu2 : p1 < 6 := Int32.not_le.mp (fun q => hb1 (Or.inr q))
      refine ⟨0, st (6 + 31 * iz + 0), (upd st (6 + 31 * iz + 0) p1, va_up sv nx st, (nx + 1) % 6, min (sz2 + 1) 6, ns, ss, bu, ln), (upd sx (6 + 31 * iz + 0) p1, so, ik, svS mv sz2 sx, tx), by decide, ⟨hst.hue hi _, hE.up (Or.inr ⟨iz, hi, rfl⟩) _, Nat.mod_lt _ (by decide), Nat.min_le_right _ _, hsv.save hnx hsz hE hst, hsl, hln, hbt, hbu⟩, fun {D cy K ad g} sz {w} hT hO => ?_, ({ frames := 2, cells := 0, slots := 0, locals := 44 } : Room), ⟨rfl, rfl, Nat.le_of_ble_eq_true rfl, Nat.le_of_ble_eq_true rfl⟩, fun {D cy K ad g} sz {th} hM => ?_⟩
      · have hTT : isT cy K ad g st sv nx sz2 ns ss bu ln := hT
        exact wok_dye l sz hT hO (by rfl) (by rfl) (by exact ⟨Nat.le_of_ble_eq_true rfl, Nat.le_of_ble_eq_true rfl⟩) (fun sz => z_postI (m_X4_dye l sz hTT hi hu1 hu2 hnx hsz) (fun r g1 h => h))
      · obtain ⟨az, kn, lo, dg, hM⟩ := hM
        replace hM : isM cy K ad g 221 sx az so ik mv tx kn lo th (nI sz2) (nI ln) dg := hM
        refine z_postI (m_X5_dye l sz hM hsz hi hu1 hu2) (fun r g1 h => ?_)
        obtain ⟨h1, h2, h3⟩ := h
        rw [svM_min hsz] at h2
        exact ⟨fun _ => h1.trans ((hE.f hi (j := 0) (by decide) (Or.inl (by decide))).symm), ⟨az, kn, lo, dg, h2⟩, h3⟩
set_option maxHeartbeats 1000000 in
theorem op_set (l : Launch) (hfl : l.stackTraces = false) {C : zCR} {M : zMR} (hA : AGr C M) (p0 : Int32) : ∃ (k : Nat) (v : Int32) (C2 : zCR) (M2 : zMR), k < 3 ∧ AGr C2 M2 ∧ (∀ {D : va_G} {cy : Nat → ClassId} {K : Nat} {ad : Nat → Nat} {g : Nat → va_E} (sz : Nat) {w : Int64}, cT cy K ad g C → oV cy K g w → wM l yL_set cL_set 4 [(0, 9, 12, 15)] [.ref (ad 0), .int p0, .ref (ad 230)] D cy K ad g sz k v C2) ∧ ∃ rm : Room, (rm.cells = 0 ∧ rm.slots = 0 ∧ rm.frames ≤ 100 ∧ rm.locals ≤ 1000) ∧ ∀ {D : va_G} {cy : Nat → ClassId} {K : Nat} {ad : Nat → Nat} {g : Nat → va_E} (sz : Nat) {th : Int32}, mT cy K ad g C.2.2.2.1 C.2.2.2.2.2.2.2 M th → Met l yX5_set (zs yX5_set cX5_set 2 (some .int)) rm (va_Pc [.ref (ad 221), .int p0] (zIn D cy K ad g sz)) (va_Qi (fun r g1 => (k = 0 → r = v) ∧ mT cy K ad g1 C2.2.2.2.1 C2.2.2.2.2.2.2.2 M2 (nI k) ∧ zFr (zRg 221 230) g g1) (zOut D cy K ad sz) (zA K ad sz)) 0 0 (zA K ad sz) := by
  obtain ⟨st, sv, nx, sz2, ns, ss, bu, ln⟩ := C
  obtain ⟨sx, so, ik, mv, tx⟩ := M
  have hA0 := hA
  obtain ⟨hst, hE, hnx, hsz, hsv, hsl, hln, hbt, hbu⟩ := hA
  dsimp only at hst hE hnx hsz hsv hsl hln hbt hbu
  have hpc := hst.pc
  have hpx := hE.pc hpc
  by_cases hb0 : p0 < 20 ∨ 99 < p0
  · refine ⟨1, 0, (st, sv, nx, sz2, ns, ss, bu, ln), (sx, so, ik, mv, tx), by decide, hA0, fun {D cy K ad g} sz {w} hT hO => ?_, ({ frames := 2, cells := 0, slots := 0, locals := 44 } : Room), ⟨rfl, rfl, Nat.le_of_ble_eq_true rfl, Nat.le_of_ble_eq_true rfl⟩, fun {D cy K ad g} sz {th} hM => ?_⟩
    · have hTT : isT cy K ad g st sv nx sz2 ns ss bu ln := hT
      exact wx1_set l sz hT hO (by rfl) (by rfl) (by exact ⟨Nat.le_of_ble_eq_true rfl, Nat.le_of_ble_eq_true rfl⟩) (fun sz => (x_X4_set_iae l hfl sz hTT hb0).r ⟨hT, zFr.rf⟩)
    · obtain ⟨az, kn, lo, dg, hM⟩ := hM
      replace hM : isM cy K ad g 221 sx az so ik mv tx kn lo th (nI sz2) (nI ln) dg := hM
      exact z_postI (m_X5_setb1 l sz hM hb0) (fun r g1 h => ⟨fun q => absurd q (by decide), ⟨az, kn, lo, dg, h.2.1⟩, h.2.2⟩)
  · have hv1 : ¬ p0 < 20 := fun q => hb0 (Or.inl q)
    have hv2 : p0 ≤ 99 := Int32.not_lt.mp (fun q => hb0 (Or.inr q))
    have hri := room_i hv1 hv2
    refine ⟨0, st 5, (upd st 5 p0, va_up sv nx st, (nx + 1) % 6, min (sz2 + 1) 6, ns, ss, bu, ln), (upd sx 5 p0, so, ik, svS mv sz2 sx, tx), by decide, ⟨hst.room hri.1 hri.2, hE.up (Or.inl (by decide)) _, Nat.mod_lt _ (by decide), Nat.min_le_right _ _, hsv.save hnx hsz hE hst, hsl, hln, hbt, hbu⟩, fun {D cy K ad g} sz {w} hT hO => ?_, ({ frames := 2, cells := 0, slots := 0, locals := 44 } : Room), ⟨rfl, rfl, Nat.le_of_ble_eq_true rfl, Nat.le_of_ble_eq_true rfl⟩, fun {D cy K ad g} sz {th} hM => ?_⟩
    · have hTT : isT cy K ad g st sv nx sz2 ns ss bu ln := hT
      exact wok_set l sz hT hO (by rfl) (by rfl) (by exact ⟨Nat.le_of_ble_eq_true rfl, Nat.le_of_ble_eq_true rfl⟩) (fun sz => z_postI (m_X4_set l sz hTT hv1 hv2 hnx hsz) (fun r g1 h => h))
    · obtain ⟨az, kn, lo, dg, hM⟩ := hM
      replace hM : isM cy K ad g 221 sx az so ik mv tx kn lo th (nI sz2) (nI ln) dg := hM
      refine z_postI (m_X5_set l sz hM hsz hv1 hv2) (fun r g1 h => ?_)
      obtain ⟨h1, h2, h3⟩ := h
      rw [svM_min hsz] at h2
      exact ⟨fun _ => h1.trans ((hE.c (x := 5) (by decide)).symm), ⟨az, kn, lo, dg, h2⟩, h3⟩
set_option maxHeartbeats 1000000 in
theorem op_append (l : Launch) (hfl : l.stackTraces = false) {C : zCR} {M : zMR} (hA : AGr C M) (p0 : Int32) : ∃ (k : Nat) (v : Int32) (C2 : zCR) (M2 : zMR), k < 3 ∧ AGr C2 M2 ∧ (∀ {D : va_G} {cy : Nat → ClassId} {K : Nat} {ad : Nat → Nat} {g : Nat → va_E} (sz : Nat) {w : Int64}, cT cy K ad g C → oV cy K g w → wM l yL_append cL_append 4 [(0, 9, 12, 15), (0, 9, 15, 39)] [.ref (ad 0), .int p0, .ref (ad 230)] D cy K ad g sz k v C2) ∧ ∃ rm : Room, (rm.cells = 0 ∧ rm.slots = 0 ∧ rm.frames ≤ 100 ∧ rm.locals ≤ 1000) ∧ ∀ {D : va_G} {cy : Nat → ClassId} {K : Nat} {ad : Nat → Nat} {g : Nat → va_E} (sz : Nat) {th : Int32}, mT cy K ad g C.2.2.2.1 C.2.2.2.2.2.2.2 M th → Met l yX5_append (zs yX5_append cX5_append 2 (some .int)) rm (va_Pc [.ref (ad 221), .int p0] (zIn D cy K ad g sz)) (va_Qi (fun r g1 => (k = 0 → r = v) ∧ mT cy K ad g1 C2.2.2.2.1 C2.2.2.2.2.2.2.2 M2 (nI k) ∧ zFr (zRg 221 230) g g1) (zOut D cy K ad sz) (zA K ad sz)) 0 0 (zA K ad sz) := by
  obtain ⟨st, sv, nx, sz2, ns, ss, bu, ln⟩ := C
  obtain ⟨sx, so, ik, mv, tx⟩ := M
  have hA0 := hA
  obtain ⟨hst, hE, hnx, hsz, hsv, hsl, hln, hbt, hbu⟩ := hA
  dsimp only at hst hE hnx hsz hsv hsl hln hbt hbu
  have hpc := hst.pc
  have hpx := hE.pc hpc
  by_cases hb0 : p0 < 33 ∨ 126 < p0
  · refine ⟨1, 0, (st, sv, nx, sz2, ns, ss, bu, ln), (sx, so, ik, mv, tx), by decide, hA0, fun {D cy K ad g} sz {w} hT hO => ?_, ({ frames := 1, cells := 0, slots := 0, locals := 22 } : Room), ⟨rfl, rfl, Nat.le_of_ble_eq_true rfl, Nat.le_of_ble_eq_true rfl⟩, fun {D cy K ad g} sz {th} hM => ?_⟩
    · have hTT : isT cy K ad g st sv nx sz2 ns ss bu ln := hT
      exact wx1_append l sz hT hO (by rfl) (by rfl) (by exact ⟨Nat.le_of_ble_eq_true rfl, Nat.le_of_ble_eq_true rfl⟩) (fun sz => (x_X4_append_iae l hfl sz hTT hb0).r ⟨hT, zFr.rf⟩)
    · obtain ⟨az, kn, lo, dg, hM⟩ := hM
      replace hM : isM cy K ad g 221 sx az so ik mv tx kn lo th (nI sz2) (nI ln) dg := hM
      exact z_postI (m_X5_appendb1 l sz hM hb0) (fun r g1 h => ⟨fun q => absurd q (by decide), ⟨az, kn, lo, dg, h.2.1⟩, h.2.2⟩)
  · have hv1 : ¬ p0 < 33 := fun q => hb0 (Or.inl q)
    have hv2 : p0 ≤ 126 := Int32.not_lt.mp (fun q => hb0 (Or.inr q))
    by_cases hl60 : ln = 60
    · subst hl60
      refine ⟨2, 0, (st, sv, nx, sz2, ns, ss, bu, 60), (sx, so, ik, mv, tx), by decide, hA0, fun {D cy K ad g} sz {w} hT hO => ?_, ({ frames := 1, cells := 0, slots := 0, locals := 22 } : Room), ⟨rfl, rfl, Nat.le_of_ble_eq_true rfl, Nat.le_of_ble_eq_true rfl⟩, fun {D cy K ad g} sz {th} hM => ?_⟩
      · have hTT : isT cy K ad g st sv nx sz2 ns ss bu 60 := hT
        exact wx2_append l sz hT hO (by rfl) (by rfl) (by exact ⟨Nat.le_of_ble_eq_true rfl, Nat.le_of_ble_eq_true rfl⟩) (fun sz => (x_X4_append_ise l hfl sz hTT hv1 hv2 rfl).r ⟨hT, zFr.rf⟩)
      · obtain ⟨az, kn, lo, dg, hM⟩ := hM
        replace hM : isM cy K ad g 221 sx az so ik mv tx kn lo th (nI sz2) (nI 60) dg := hM
        exact z_postI (m_X5_appendb2 l sz hM hv1 hv2) (fun r g1 h => ⟨fun q => absurd q (by decide), ⟨az, kn, lo, dg, h.2.1⟩, h.2.2⟩)
    · have hl : ln < 60 := by omega
      refine ⟨0, nI (ln + 1), (st, sv, nx, sz2, ns, ss, upd bu ln p0, ln + 1), (sx, so, ik, mv, upd tx ln p0), by decide, ⟨hst, hE, hnx, hsz, hsv, hsl, hl, fun k hk => bt_up hbt hk, fun k hk => bu_up hbu hv1 hv2 hk⟩, fun {D cy K ad g} sz {w} hT hO => ?_, ({ frames := 1, cells := 0, slots := 0, locals := 22 } : Room), ⟨rfl, rfl, Nat.le_of_ble_eq_true rfl, Nat.le_of_ble_eq_true rfl⟩, fun {D cy K ad g} sz {th} hM => ?_⟩
      · have hTT : isT cy K ad g st sv nx sz2 ns ss bu ln := hT
        exact wok_append l sz hT hO (by rfl) (by rfl) (by exact ⟨Nat.le_of_ble_eq_true rfl, Nat.le_of_ble_eq_true rfl⟩) (fun sz => z_postI (m_X4_append l sz hTT hv1 hv2 hl) (fun r g1 h => h))
      · obtain ⟨az, kn, lo, dg, hM⟩ := hM
        replace hM : isM cy K ad g 221 sx az so ik mv tx kn lo th (nI sz2) (nI ln) dg := hM
        refine z_postI (m_X5_append l sz hM hv1 hv2 hl) (fun r g1 h => ?_)
        exact ⟨fun _ => h.1.trans (rfl), ⟨az, kn, lo, dg, h.2.1⟩, h.2.2⟩
set_option maxHeartbeats 1000000 in
theorem op_run (l : Launch) (hfl : l.stackTraces = false) {C : zCR} {M : zMR} (hA : AGr C M) : ∃ (k : Nat) (v : Int32) (C2 : zCR) (M2 : zMR), k < 3 ∧ AGr C2 M2 ∧ (∀ {D : va_G} {cy : Nat → ClassId} {K : Nat} {ad : Nat → Nat} {g : Nat → va_E} (sz : Nat) {w : Int64}, cT cy K ad g C → oV cy K g w → wM l yL_run cL_run 3 [(0, 8, 11, 15)] [.ref (ad 0), .ref (ad 230)] D cy K ad g sz k v C2) ∧ ∃ rm : Room, (rm.cells = 0 ∧ rm.slots = 0 ∧ rm.frames ≤ 100 ∧ rm.locals ≤ 1000) ∧ ∀ {D : va_G} {cy : Nat → ClassId} {K : Nat} {ad : Nat → Nat} {g : Nat → va_E} (sz : Nat) {th : Int32}, mT cy K ad g C.2.2.2.1 C.2.2.2.2.2.2.2 M th → Met l yX5_run (zs yX5_run cX5_run 5 (some .int)) rm (va_Pc [.ref (ad 221)] (zIn D cy K ad g sz)) (va_Qi (fun r g1 => (k = 0 → r = v) ∧ mT cy K ad g1 C2.2.2.2.1 C2.2.2.2.2.2.2.2 M2 (nI k) ∧ zFr (zRg 221 230) g g1) (zOut D cy K ad sz) (zA K ad sz)) 0 0 (zA K ad sz) := by
  obtain ⟨st, sv, nx, sz2, ns, ss, bu, ln⟩ := C
  obtain ⟨sx, so, ik, mv, tx⟩ := M
  have hA0 := hA
  obtain ⟨hst, hE, hnx, hsz, hsv, hsl, hln, hbt, hbu⟩ := hA
  dsimp only at hst hE hnx hsz hsv hsl hln hbt hbu
  have hpc := hst.pc
  have hpx := hE.pc hpc
  by_cases hw0 : wrR tx ln (ln + 1) 0 = none
  · obtain ⟨hall, h3⟩ := (wr_none hbt).mp hw0
    obtain ⟨e1, e2, e3⟩ := run_eq hbt hall h3 hst hE
    refine ⟨0, nI (doSt bu rs0 ln st (ln + 1)).2.1, ((doSt bu rs0 ln st (ln + 1)).1, va_up sv nx st, (nx + 1) % 6, min (sz2 + 1) 6, ns, ss, bu, 0), ((rnF tx ln (ln + 1) 0 sx).1, so, ik, svS mv sz2 sx, tx), by decide, ⟨e3, e2, Nat.mod_lt _ (by decide), Nat.min_le_right _ _, hsv.save hnx hsz hE hst, hsl, Nat.zero_le _, fun k hk => absurd hk (Nat.not_lt_zero _), fun k hk => absurd hk (Nat.not_lt_zero _)⟩, fun {D cy K ad g} sz {w} hT hO => ?_, ({ frames := 9, cells := 0, slots := 0, locals := 208 } : Room), ⟨rfl, rfl, Nat.le_of_ble_eq_true rfl, Nat.le_of_ble_eq_true rfl⟩, fun {D cy K ad g} sz {th} hM => ?_⟩
    · have hTT : isT cy K ad g st sv nx sz2 ns ss bu ln := hT
      exact wok_run l sz hT hO (by rfl) (by rfl) (by exact ⟨Nat.le_of_ble_eq_true rfl, Nat.le_of_ble_eq_true rfl⟩) (fun sz => z_postI (m_X4_run l sz hTT hln hbu hpc hall h3 hnx hsz) (fun r g1 h => h))
    · obtain ⟨az, kn, lo, dg, hM⟩ := hM
      replace hM : isM cy K ad g 221 sx az so ik mv tx kn lo th (nI sz2) (nI ln) dg := hM
      refine z_postI (m_X5_run l sz hM hsz hln hpx hw0) (fun r g1 h => ?_)
      obtain ⟨h1, ⟨kn2, lo2, h2⟩, h3⟩ := h
      rw [svM_min hsz] at h2
      exact ⟨fun _ => h1.trans (congrArg nI e1.symm), ⟨az, kn2, lo2, dg, h2⟩, h3⟩
  · have hbd : ¬ (errN bu rs0 ln = ln ∧ (rdEnd bu rs0 ln).1 = 3) := fun q => hw0 ((wr_none hbt).mpr q)
    obtain ⟨e9, hw9⟩ := opt_some hw0
    refine ⟨1, 0, (st, sv, nx, sz2, ns, ss, bu, ln), (sx, so, ik, mv, tx), by decide, hA0, fun {D cy K ad g} sz {w} hT hO => ?_, ({ frames := 9, cells := 0, slots := 0, locals := 208 } : Room), ⟨rfl, rfl, Nat.le_of_ble_eq_true rfl, Nat.le_of_ble_eq_true rfl⟩, fun {D cy K ad g} sz {th} hM => ?_⟩
    · have hTT : isT cy K ad g st sv nx sz2 ns ss bu ln := hT
      exact wx1_run l sz hT hO (by rfl) (by rfl) (by exact ⟨Nat.le_of_ble_eq_true rfl, Nat.le_of_ble_eq_true rfl⟩) (fun sz => x_X4_run_iae l hfl sz hTT hln hbu hbd)
    · obtain ⟨az, kn, lo, dg, hM⟩ := hM
      replace hM : isM cy K ad g 221 sx az so ik mv tx kn lo th (nI sz2) (nI ln) dg := hM
      exact z_postI (m_X5_runb1 l sz hM hln hw9) (fun r g1 h => ⟨fun q => absurd q (by decide), ⟨az, kn, lo, dg, h.2.1⟩, h.2.2⟩)
set_option maxHeartbeats 1000000 in
theorem op_goBack (l : Launch) (hfl : l.stackTraces = false) {C : zCR} {M : zMR} (hA : AGr C M) (p0 : Int32) : ∃ (k : Nat) (v : Int32) (C2 : zCR) (M2 : zMR), k < 3 ∧ AGr C2 M2 ∧ (∀ {D : va_G} {cy : Nat → ClassId} {K : Nat} {ad : Nat → Nat} {g : Nat → va_E} (sz : Nat) {w : Int64}, cT cy K ad g C → oV cy K g w → wM l yL_goBack cL_goBack 4 [(0, 9, 12, 15), (0, 9, 15, 39)] [.ref (ad 0), .int p0, .ref (ad 230)] D cy K ad g sz k v C2) ∧ ∃ rm : Room, (rm.cells = 0 ∧ rm.slots = 0 ∧ rm.frames ≤ 100 ∧ rm.locals ≤ 1000) ∧ ∀ {D : va_G} {cy : Nat → ClassId} {K : Nat} {ad : Nat → Nat} {g : Nat → va_E} (sz : Nat) {th : Int32}, mT cy K ad g C.2.2.2.1 C.2.2.2.2.2.2.2 M th → Met l yX5_goBack (zs yX5_goBack cX5_goBack 4 (some .int)) rm (va_Pc [.ref (ad 221), .int p0] (zIn D cy K ad g sz)) (va_Qi (fun r g1 => (k = 0 → r = v) ∧ mT cy K ad g1 C2.2.2.2.1 C2.2.2.2.2.2.2.2 M2 (nI k) ∧ zFr (zRg 221 230) g g1) (zOut D cy K ad sz) (zA K ad sz)) 0 0 (zA K ad sz) := by
  obtain ⟨st, sv, nx, sz2, ns, ss, bu, ln⟩ := C
  obtain ⟨sx, so, ik, mv, tx⟩ := M
  have hA0 := hA
  obtain ⟨hst, hE, hnx, hsz, hsv, hsl, hln, hbt, hbu⟩ := hA
  dsimp only at hst hE hnx hsz hsv hsl hln hbt hbu
  have hpc := hst.pc
  have hpx := hE.pc hpc
  by_cases hb0 : p0 < 0 ∨ 2 ≤ p0
  · refine ⟨1, 0, (st, sv, nx, sz2, ns, ss, bu, ln), (sx, so, ik, mv, tx), by decide, hA0, fun {D cy K ad g} sz {w} hT hO => ?_, ({ frames := 4, cells := 0, slots := 0, locals := 88 } : Room), ⟨rfl, rfl, Nat.le_of_ble_eq_true rfl, Nat.le_of_ble_eq_true rfl⟩, fun {D cy K ad g} sz {th} hM => ?_⟩
    · have hTT : isT cy K ad g st sv nx sz2 ns ss bu ln := hT
      exact wx1_goBack l sz hT hO (by rfl) (by rfl) (by exact ⟨Nat.le_of_ble_eq_true rfl, Nat.le_of_ble_eq_true rfl⟩) (fun sz => (x_X4_goBack_iae l hfl sz hTT hb0).r ⟨hT, zFr.rf⟩)
    · obtain ⟨az, kn, lo, dg, hM⟩ := hM
      replace hM : isM cy K ad g 221 sx az so ik mv tx kn lo th (nI sz2) (nI ln) dg := hM
      exact z_postI (m_X5_goBackb1 l sz hM hb0) (fun r g1 h => ⟨fun q => absurd q (by decide), ⟨az, kn, lo, dg, h.2.1⟩, h.2.2⟩)
  · obtain ⟨jz, hj, rfl⟩ := z_rng (b := 2) (by decide) hb0
    by_cases hns0 : ns jz = none
    · refine ⟨2, 0, (st, sv, nx, sz2, ns, ss, bu, ln), (sx, so, ik, mv, tx), by decide, hA0, fun {D cy K ad g} sz {w} hT hO => ?_, ({ frames := 4, cells := 0, slots := 0, locals := 88 } : Room), ⟨rfl, rfl, Nat.le_of_ble_eq_true rfl, Nat.le_of_ble_eq_true rfl⟩, fun {D cy K ad g} sz {th} hM => ?_⟩
      · have hTT : isT cy K ad g st sv nx sz2 ns ss bu ln := hT
        exact wx2_goBack l sz hT hO (by rfl) (by rfl) (by exact ⟨Nat.le_of_ble_eq_true rfl, Nat.le_of_ble_eq_true rfl⟩) (fun sz => (x_X4_goBack_ise l hfl sz hTT hj hns0).r ⟨hT, zFr.rf⟩)
      · obtain ⟨az, kn, lo, dg, hM⟩ := hM
        replace hM : isM cy K ad g 221 sx az so ik mv tx kn lo th (nI sz2) (nI ln) dg := hM
        exact z_postI (m_X5_goBackb2 l sz hM hj (hsl.no hj hns0)) (fun r g1 h => ⟨fun q => absurd q (by decide), ⟨az, kn, lo, dg, h.2.1⟩, h.2.2⟩)
    · obtain ⟨na, hns⟩ := opt_some hns0
      obtain ⟨g1, g2, g3⟩ := hsl.get (s := sx) hj hns
      refine ⟨0, sumN (allK (ss jz)) 7 + sumN (allL (ss jz)) 7, (ss jz, va_up sv nx st, (nx + 1) % 6, min (sz2 + 1) 6, ns, ss, bu, ln), (slG so jz 223 sx, so, ik, svS mv sz2 sx, tx), by decide, ⟨g3, g2, Nat.mod_lt _ (by decide), Nat.min_le_right _ _, hsv.save hnx hsz hE hst, hsl, hln, hbt, hbu⟩, fun {D cy K ad g} sz {w} hT hO => ?_, ({ frames := 4, cells := 0, slots := 0, locals := 88 } : Room), ⟨rfl, rfl, Nat.le_of_ble_eq_true rfl, Nat.le_of_ble_eq_true rfl⟩, fun {D cy K ad g} sz {th} hM => ?_⟩
      · have hTT : isT cy K ad g st sv nx sz2 ns ss bu ln := hT
        exact wok_goBack l sz hT hO (by rfl) (by rfl) (by exact ⟨Nat.le_of_ble_eq_true rfl, Nat.le_of_ble_eq_true rfl⟩) (fun sz => z_postI (m_X4_goBack l sz hTT hj hns hnx hsz) (fun r g1 h => h))
      · obtain ⟨az, kn, lo, dg, hM⟩ := hM
        replace hM : isM cy K ad g 221 sx az so ik mv tx kn lo th (nI sz2) (nI ln) dg := hM
        refine z_postI (m_X5_goBack l sz hM hsz hj g1) (fun r g1 h => ?_)
        obtain ⟨h1, h2, h3⟩ := h
        rw [svM_min hsz] at h2
        exact ⟨fun _ => h1.trans ((sumN_congr (fun k hk => (g2.ti hk).symm)).trans (ties_all _).symm), ⟨az, kn, lo, dg, h2⟩, h3⟩
set_option maxHeartbeats 1000000 in
theorem op_undo (l : Launch) (hfl : l.stackTraces = false) {C : zCR} {M : zMR} (hA : AGr C M) : ∃ (k : Nat) (v : Int32) (C2 : zCR) (M2 : zMR), k < 3 ∧ AGr C2 M2 ∧ (∀ {D : va_G} {cy : Nat → ClassId} {K : Nat} {ad : Nat → Nat} {g : Nat → va_E} (sz : Nat) {w : Int64}, cT cy K ad g C → oV cy K g w → wM l yL_undo cL_undo 3 [(0, 8, 11, 39)] [.ref (ad 0), .ref (ad 230)] D cy K ad g sz k v C2) ∧ ∃ rm : Room, (rm.cells = 0 ∧ rm.slots = 0 ∧ rm.frames ≤ 100 ∧ rm.locals ≤ 1000) ∧ ∀ {D : va_G} {cy : Nat → ClassId} {K : Nat} {ad : Nat → Nat} {g : Nat → va_E} (sz : Nat) {th : Int32}, mT cy K ad g C.2.2.2.1 C.2.2.2.2.2.2.2 M th → Met l yX5_undo (zs yX5_undo cX5_undo 2 (some .int)) rm (va_Pc [.ref (ad 221)] (zIn D cy K ad g sz)) (va_Qi (fun r g1 => (k = 0 → r = v) ∧ mT cy K ad g1 C2.2.2.2.1 C2.2.2.2.2.2.2.2 M2 (nI k) ∧ zFr (zRg 221 230) g g1) (zOut D cy K ad sz) (zA K ad sz)) 0 0 (zA K ad sz) := by
  obtain ⟨st, sv, nx, sz2, ns, ss, bu, ln⟩ := C
  obtain ⟨sx, so, ik, mv, tx⟩ := M
  have hA0 := hA
  obtain ⟨hst, hE, hnx, hsz, hsv, hsl, hln, hbt, hbu⟩ := hA
  dsimp only at hst hE hnx hsz hsv hsl hln hbt hbu
  have hpc := hst.pc
  have hpx := hE.pc hpc
  by_cases hz : sz2 = 0
  · subst hz
    refine ⟨1, 0, (st, sv, nx, 0, ns, ss, bu, ln), (sx, so, ik, mv, tx), by decide, hA0, fun {D cy K ad g} sz {w} hT hO => ?_, ({ frames := 1, cells := 0, slots := 0, locals := 21 } : Room), ⟨rfl, rfl, Nat.le_of_ble_eq_true rfl, Nat.le_of_ble_eq_true rfl⟩, fun {D cy K ad g} sz {th} hM => ?_⟩
    · have hTT : isT cy K ad g st sv nx 0 ns ss bu ln := hT
      exact wx1_undo l sz hT hO (by rfl) (by rfl) (by exact ⟨Nat.le_of_ble_eq_true rfl, Nat.le_of_ble_eq_true rfl⟩) (fun sz => (x_X4_undo_ise l hfl sz hTT rfl).r ⟨hT, zFr.rf⟩)
    · obtain ⟨az, kn, lo, dg, hM⟩ := hM
      replace hM : isM cy K ad g 221 sx az so ik mv tx kn lo th 0 (nI ln) dg := hM
      exact z_postI (m_X5_undob1 l sz hM ) (fun r g1 h => ⟨fun q => absurd q (by decide), ⟨az, kn, lo, dg, h.2.1⟩, h.2.2⟩)
  · obtain ⟨sz3, rfl⟩ : ∃ q, sz2 = q + 1 := ⟨sz2 - 1, by omega⟩
    obtain ⟨g1, g2, g3⟩ := hsv.undo (s := sx) hnx (by omega)
    refine ⟨0, nI sz3, (sv ((nx + 5) % 6), sv, (nx + 5) % 6, sz3, ns, ss, bu, ln), (slG mv sz3 223 sx, so, ik, mv, tx), by decide, ⟨g3, g2, Nat.mod_lt _ (by decide), Nat.le_of_succ_le hsz, g1, hsl, hln, hbt, hbu⟩, fun {D cy K ad g} sz {w} hT hO => ?_, ({ frames := 1, cells := 0, slots := 0, locals := 21 } : Room), ⟨rfl, rfl, Nat.le_of_ble_eq_true rfl, Nat.le_of_ble_eq_true rfl⟩, fun {D cy K ad g} sz {th} hM => ?_⟩
    · have hTT : isT cy K ad g st sv nx (sz3 + 1) ns ss bu ln := hT
      exact wok_undo l sz hT hO (by rfl) (by rfl) (by exact ⟨Nat.le_of_ble_eq_true rfl, Nat.le_of_ble_eq_true rfl⟩) (fun sz => z_postI (m_X4_undo l sz hTT hnx (by omega)) (fun r g1 h => h))
    · obtain ⟨az, kn, lo, dg, hM⟩ := hM
      replace hM : isM cy K ad g 221 sx az so ik mv tx kn lo th (nI (sz3 + 1)) (nI ln) dg := hM
      refine z_postI (m_X5_undo l sz hM (by omega)) (fun r g1 h => ?_)
      exact ⟨fun _ => h.1.trans (rfl), ⟨az, kn, lo, dg, h.2.1⟩, h.2.2⟩
set_option maxHeartbeats 1000000 in
theorem op_cordOf (l : Launch) (hfl : l.stackTraces = false) {C : zCR} {M : zMR} (hA : AGr C M) (p0 p1 : Int32) : ∃ (k : Nat) (v : Int32) (C2 : zCR) (M2 : zMR), k < 3 ∧ AGr C2 M2 ∧ (∀ {D : va_G} {cy : Nat → ClassId} {K : Nat} {ad : Nat → Nat} {g : Nat → va_E} (sz : Nat) {w : Int64}, cT cy K ad g C → oV cy K g w → wM l yL_cordOf cL_cordOf 5 [(0, 10, 13, 13), (0, 10, 17, 15)] [.ref (ad 0), .int p0, .int p1, .ref (ad 230)] D cy K ad g sz k v C2) ∧ ∃ rm : Room, (rm.cells = 0 ∧ rm.slots = 0 ∧ rm.frames ≤ 100 ∧ rm.locals ≤ 1000) ∧ ∀ {D : va_G} {cy : Nat → ClassId} {K : Nat} {ad : Nat → Nat} {g : Nat → va_E} (sz : Nat) {th : Int32}, mT cy K ad g C.2.2.2.1 C.2.2.2.2.2.2.2 M th → Met l yX5_cordOf (zs yX5_cordOf cX5_cordOf 3 (some .int)) rm (va_Pc [.ref (ad 221), .int p0, .int p1] (zIn D cy K ad g sz)) (va_Qi (fun r g1 => (k = 0 → r = v) ∧ mT cy K ad g1 C2.2.2.2.1 C2.2.2.2.2.2.2.2 M2 (nI k) ∧ zFr (zRg 221 230) g g1) (zOut D cy K ad sz) (zA K ad sz)) 0 0 (zA K ad sz) := by
  obtain ⟨st, sv, nx, sz2, ns, ss, bu, ln⟩ := C
  obtain ⟨sx, so, ik, mv, tx⟩ := M
  have hA0 := hA
  obtain ⟨hst, hE, hnx, hsz, hsv, hsl, hln, hbt, hbu⟩ := hA
  dsimp only at hst hE hnx hsz hsv hsl hln hbt hbu
  have hpc := hst.pc
  have hpx := hE.pc hpc
  by_cases hb0 : p0 < 0 ∨ 7 ≤ p0
  · refine ⟨1, 0, (st, sv, nx, sz2, ns, ss, bu, ln), (sx, so, ik, mv, tx), by decide, hA0, fun {D cy K ad g} sz {w} hT hO => ?_, ({ frames := 6, cells := 0, slots := 0, locals := 131 } : Room), ⟨rfl, rfl, Nat.le_of_ble_eq_true rfl, Nat.le_of_ble_eq_true rfl⟩, fun {D cy K ad g} sz {th} hM => ?_⟩
    · have hTT : isT cy K ad g st sv nx sz2 ns ss bu ln := hT
      exact wx1_cordOf l sz hT hO (by rfl) (by rfl) (by exact ⟨Nat.le_of_ble_eq_true rfl, Nat.le_of_ble_eq_true rfl⟩) (fun sz => (x_X4_cordOf_iob l hfl sz hTT hb0).r ⟨hT, zFr.rf⟩)
    · obtain ⟨az, kn, lo, dg, hM⟩ := hM
      replace hM : isM cy K ad g 221 sx az so ik mv tx kn lo th (nI sz2) (nI ln) dg := hM
      exact z_postI (m_X5_cordOfb1 l sz hM hb0) (fun r g1 h => ⟨fun q => absurd q (by decide), ⟨az, kn, lo, dg, h.2.1⟩, h.2.2⟩)
  · obtain ⟨iz, hi, rfl⟩ := z_rng (b := 7) (by decide) hb0
    by_cases hb1 : p1 < 0 ∨ 8 ≤ p1
    · refine ⟨2, 0, (st, sv, nx, sz2, ns, ss, bu, ln), (sx, so, ik, mv, tx), by decide, hA0, fun {D cy K ad g} sz {w} hT hO => ?_, ({ frames := 6, cells := 0, slots := 0, locals := 131 } : Room), ⟨rfl, rfl, Nat.le_of_ble_eq_true rfl, Nat.le_of_ble_eq_true rfl⟩, fun {D cy K ad g} sz {th} hM => ?_⟩
      · have hTT : isT cy K ad g st sv nx sz2 ns ss bu ln := hT
        exact wx2_cordOf l sz hT hO (by rfl) (by rfl) (by exact ⟨Nat.le_of_ble_eq_true rfl, Nat.le_of_ble_eq_true rfl⟩) (fun sz => (x_X4_cordOf_iae l hfl sz hTT hi hb1).r ⟨hT, zFr.rf⟩)
      · obtain ⟨az, kn, lo, dg, hM⟩ := hM
        replace hM : isM cy K ad g 221 sx az so ik mv tx kn lo th (nI sz2) (nI ln) dg := hM
        exact z_postI (m_X5_cordOfb2 l sz hM hi hb1) (fun r g1 h => ⟨fun q => absurd q (by decide), ⟨az, kn, lo, dg, h.2.1⟩, h.2.2⟩)
    · obtain ⟨wz, hw, rfl⟩ := z_rng (b := 8) (by decide) hb1
      refine ⟨0, cordF st iz wz, (st, sv, nx, sz2, ns, ss, bu, ln), (sx, so, ik, mv, tx), by decide, hA0, fun {D cy K ad g} sz {w} hT hO => ?_, ({ frames := 6, cells := 0, slots := 0, locals := 131 } : Room), ⟨rfl, rfl, Nat.le_of_ble_eq_true rfl, Nat.le_of_ble_eq_true rfl⟩, fun {D cy K ad g} sz {th} hM => ?_⟩
      · have hTT : isT cy K ad g st sv nx sz2 ns ss bu ln := hT
        exact wok_cordOf l sz hT hO (by rfl) (by rfl) (by exact ⟨Nat.le_of_ble_eq_true rfl, Nat.le_of_ble_eq_true rfl⟩) (fun sz => z_postI (m_X4_cordOf l sz hTT hi hw hpc) (fun r g1 h => ⟨h.2, by rw [h.1]; exact hT, by rw [h.1]; exact zFr.rf⟩))
      · obtain ⟨az, kn, lo, dg, hM⟩ := hM
        replace hM : isM cy K ad g 221 sx az so ik mv tx kn lo th (nI sz2) (nI ln) dg := hM
        refine z_postI (m_X5_cordOf l sz hM hi hw hpx) (fun r g1 h => ?_)
        exact ⟨fun _ => h.1.trans ((hE.cordF' hpc hi hw).symm), ⟨az, kn, lo, dg, h.2.1⟩, h.2.2⟩
set_option maxHeartbeats 1000000 in
theorem op_placeOf (l : Launch) (hfl : l.stackTraces = false) {C : zCR} {M : zMR} (hA : AGr C M) (p0 p1 p2 : Int32) : ∃ (k : Nat) (v : Int32) (C2 : zCR) (M2 : zMR), k < 3 ∧ AGr C2 M2 ∧ (∀ {D : va_G} {cy : Nat → ClassId} {K : Nat} {ad : Nat → Nat} {g : Nat → va_E} (sz : Nat) {w : Int64}, cT cy K ad g C → oV cy K g w → wM l yL_placeOf cL_placeOf 6 [(0, 12, 15, 13), (0, 12, 19, 15)] [.ref (ad 0), .int p0, .int p1, .int p2, .ref (ad 230)] D cy K ad g sz k v C2) ∧ ∃ rm : Room, (rm.cells = 0 ∧ rm.slots = 0 ∧ rm.frames ≤ 100 ∧ rm.locals ≤ 1000) ∧ ∀ {D : va_G} {cy : Nat → ClassId} {K : Nat} {ad : Nat → Nat} {g : Nat → va_E} (sz : Nat) {th : Int32}, mT cy K ad g C.2.2.2.1 C.2.2.2.2.2.2.2 M th → Met l yX5_placeOf (zs yX5_placeOf cX5_placeOf 4 (some .int)) rm (va_Pc [.ref (ad 221), .int p0, .int p1, .int p2] (zIn D cy K ad g sz)) (va_Qi (fun r g1 => (k = 0 → r = v) ∧ mT cy K ad g1 C2.2.2.2.1 C2.2.2.2.2.2.2.2 M2 (nI k) ∧ zFr (zRg 221 230) g g1) (zOut D cy K ad sz) (zA K ad sz)) 0 0 (zA K ad sz) := by
  obtain ⟨st, sv, nx, sz2, ns, ss, bu, ln⟩ := C
  obtain ⟨sx, so, ik, mv, tx⟩ := M
  have hA0 := hA
  obtain ⟨hst, hE, hnx, hsz, hsv, hsl, hln, hbt, hbu⟩ := hA
  dsimp only at hst hE hnx hsz hsv hsl hln hbt hbu
  have hpc := hst.pc
  have hpx := hE.pc hpc
  by_cases hb0 : p0 < 0 ∨ 7 ≤ p0
  · refine ⟨1, 0, (st, sv, nx, sz2, ns, ss, bu, ln), (sx, so, ik, mv, tx), by decide, hA0, fun {D cy K ad g} sz {w} hT hO => ?_, ({ frames := 4, cells := 0, slots := 0, locals := 89 } : Room), ⟨rfl, rfl, Nat.le_of_ble_eq_true rfl, Nat.le_of_ble_eq_true rfl⟩, fun {D cy K ad g} sz {th} hM => ?_⟩
    · have hTT : isT cy K ad g st sv nx sz2 ns ss bu ln := hT
      exact wx1_placeOf l sz hT hO (by rfl) (by rfl) (by exact ⟨Nat.le_of_ble_eq_true rfl, Nat.le_of_ble_eq_true rfl⟩) (fun sz => (x_X4_placeOf_iob l hfl sz hTT hb0).r ⟨hT, zFr.rf⟩)
    · obtain ⟨az, kn, lo, dg, hM⟩ := hM
      replace hM : isM cy K ad g 221 sx az so ik mv tx kn lo th (nI sz2) (nI ln) dg := hM
      exact z_postI (m_X5_placeOfb1 l sz hM hb0) (fun r g1 h => ⟨fun q => absurd q (by decide), ⟨az, kn, lo, dg, h.2.1⟩, h.2.2⟩)
  · obtain ⟨iz, hi, rfl⟩ := z_rng (b := 7) (by decide) hb0
    by_cases hb1 : p1 < 0 ∨ 6 ≤ p1
    · refine ⟨1, 0, (st, sv, nx, sz2, ns, ss, bu, ln), (sx, so, ik, mv, tx), by decide, hA0, fun {D cy K ad g} sz {w} hT hO => ?_, ({ frames := 4, cells := 0, slots := 0, locals := 89 } : Room), ⟨rfl, rfl, Nat.le_of_ble_eq_true rfl, Nat.le_of_ble_eq_true rfl⟩, fun {D cy K ad g} sz {th} hM => ?_⟩
      · have hTT : isT cy K ad g st sv nx sz2 ns ss bu ln := hT
        exact wx1_placeOf l sz hT hO (by rfl) (by rfl) (by exact ⟨Nat.le_of_ble_eq_true rfl, Nat.le_of_ble_eq_true rfl⟩) (fun sz => (x_X4_placeOf_iob2 l hfl sz hTT hi hb1).r ⟨hT, zFr.rf⟩)
      · obtain ⟨az, kn, lo, dg, hM⟩ := hM
        replace hM : isM cy K ad g 221 sx az so ik mv tx kn lo th (nI sz2) (nI ln) dg := hM
        exact z_postI (m_X5_placeOfb2 l sz hM hi hb1) (fun r g1 h => ⟨fun q => absurd q (by decide), ⟨az, kn, lo, dg, h.2.1⟩, h.2.2⟩)
    · obtain ⟨jz, hj, rfl⟩ := z_rng (b := 6) (by decide) hb1
      by_cases hb2 : p2 < 0 ∨ 4 ≤ p2
      · refine ⟨2, 0, (st, sv, nx, sz2, ns, ss, bu, ln), (sx, so, ik, mv, tx), by decide, hA0, fun {D cy K ad g} sz {w} hT hO => ?_, ({ frames := 4, cells := 0, slots := 0, locals := 89 } : Room), ⟨rfl, rfl, Nat.le_of_ble_eq_true rfl, Nat.le_of_ble_eq_true rfl⟩, fun {D cy K ad g} sz {th} hM => ?_⟩
        · have hTT : isT cy K ad g st sv nx sz2 ns ss bu ln := hT
          exact wx2_placeOf l sz hT hO (by rfl) (by rfl) (by exact ⟨Nat.le_of_ble_eq_true rfl, Nat.le_of_ble_eq_true rfl⟩) (fun sz => (x_X4_placeOf_iae l hfl sz hTT hi hj hb2).r ⟨hT, zFr.rf⟩)
        · obtain ⟨az, kn, lo, dg, hM⟩ := hM
          replace hM : isM cy K ad g 221 sx az so ik mv tx kn lo th (nI sz2) (nI ln) dg := hM
          exact z_postI (m_X5_placeOfb3 l sz hM hi hj hb2) (fun r g1 h => ⟨fun q => absurd q (by decide), ⟨az, kn, lo, dg, h.2.1⟩, h.2.2⟩)
      · obtain ⟨wz, hw, rfl⟩ := z_rng (b := 4) (by decide) hb2
        refine ⟨0, placeF st iz jz wz, (st, sv, nx, sz2, ns, ss, bu, ln), (sx, so, ik, mv, tx), by decide, hA0, fun {D cy K ad g} sz {w} hT hO => ?_, ({ frames := 4, cells := 0, slots := 0, locals := 89 } : Room), ⟨rfl, rfl, Nat.le_of_ble_eq_true rfl, Nat.le_of_ble_eq_true rfl⟩, fun {D cy K ad g} sz {th} hM => ?_⟩
        · have hTT : isT cy K ad g st sv nx sz2 ns ss bu ln := hT
          exact wok_placeOf l sz hT hO (by rfl) (by rfl) (by exact ⟨Nat.le_of_ble_eq_true rfl, Nat.le_of_ble_eq_true rfl⟩) (fun sz => z_postI (m_X4_placeOf l sz hTT hi hj hw) (fun r g1 h => ⟨h.2, by rw [h.1]; exact hT, by rw [h.1]; exact zFr.rf⟩))
        · obtain ⟨az, kn, lo, dg, hM⟩ := hM
          replace hM : isM cy K ad g 221 sx az so ik mv tx kn lo th (nI sz2) (nI ln) dg := hM
          refine z_postI (m_X5_placeOf l sz hM hi hj hw) (fun r g1 h => ?_)
          exact ⟨fun _ => h.1.trans ((hE.placeF' hi hj hw).symm), ⟨az, kn, lo, dg, h.2.1⟩, h.2.2⟩
set_option maxHeartbeats 1000000 in
theorem op_part (l : Launch) (hfl : l.stackTraces = false) {C : zCR} {M : zMR} (hA : AGr C M) (p0 p1 : Int32) : ∃ (k : Nat) (v : Int32) (C2 : zCR) (M2 : zMR), k < 3 ∧ AGr C2 M2 ∧ (∀ {D : va_G} {cy : Nat → ClassId} {K : Nat} {ad : Nat → Nat} {g : Nat → va_E} (sz : Nat) {w : Int64}, cT cy K ad g C → oV cy K g w → wM l yL_part cL_part 5 [(0, 10, 13, 13), (0, 10, 17, 15)] [.ref (ad 0), .int p0, .int p1, .ref (ad 230)] D cy K ad g sz k v C2) ∧ ∃ rm : Room, (rm.cells = 0 ∧ rm.slots = 0 ∧ rm.frames ≤ 100 ∧ rm.locals ≤ 1000) ∧ ∀ {D : va_G} {cy : Nat → ClassId} {K : Nat} {ad : Nat → Nat} {g : Nat → va_E} (sz : Nat) {th : Int32}, mT cy K ad g C.2.2.2.1 C.2.2.2.2.2.2.2 M th → Met l yX5_part (zs yX5_part cX5_part 3 (some .int)) rm (va_Pc [.ref (ad 221), .int p0, .int p1] (zIn D cy K ad g sz)) (va_Qi (fun r g1 => (k = 0 → r = v) ∧ mT cy K ad g1 C2.2.2.2.1 C2.2.2.2.2.2.2.2 M2 (nI k) ∧ zFr (zRg 221 230) g g1) (zOut D cy K ad sz) (zA K ad sz)) 0 0 (zA K ad sz) := by
  obtain ⟨st, sv, nx, sz2, ns, ss, bu, ln⟩ := C
  obtain ⟨sx, so, ik, mv, tx⟩ := M
  have hA0 := hA
  obtain ⟨hst, hE, hnx, hsz, hsv, hsl, hln, hbt, hbu⟩ := hA
  dsimp only at hst hE hnx hsz hsv hsl hln hbt hbu
  have hpc := hst.pc
  have hpx := hE.pc hpc
  by_cases hb0 : p0 < 0 ∨ 7 ≤ p0
  · refine ⟨1, 0, (st, sv, nx, sz2, ns, ss, bu, ln), (sx, so, ik, mv, tx), by decide, hA0, fun {D cy K ad g} sz {w} hT hO => ?_, ({ frames := 2, cells := 0, slots := 0, locals := 43 } : Room), ⟨rfl, rfl, Nat.le_of_ble_eq_true rfl, Nat.le_of_ble_eq_true rfl⟩, fun {D cy K ad g} sz {th} hM => ?_⟩
    · have hTT : isT cy K ad g st sv nx sz2 ns ss bu ln := hT
      exact wx1_part l sz hT hO (by rfl) (by rfl) (by exact ⟨Nat.le_of_ble_eq_true rfl, Nat.le_of_ble_eq_true rfl⟩) (fun sz => (x_X4_part_iob l hfl sz hTT hb0).r ⟨hT, zFr.rf⟩)
    · obtain ⟨az, kn, lo, dg, hM⟩ := hM
      replace hM : isM cy K ad g 221 sx az so ik mv tx kn lo th (nI sz2) (nI ln) dg := hM
      exact z_postI (m_X5_partb1 l sz hM hb0) (fun r g1 h => ⟨fun q => absurd q (by decide), ⟨az, kn, lo, dg, h.2.1⟩, h.2.2⟩)
  · obtain ⟨iz, hi, rfl⟩ := z_rng (b := 7) (by decide) hb0
    by_cases hb1 : p1 < 0
    · refine ⟨2, 0, (st, sv, nx, sz2, ns, ss, bu, ln), (sx, so, ik, mv, tx), by decide, hA0, fun {D cy K ad g} sz {w} hT hO => ?_, ({ frames := 2, cells := 0, slots := 0, locals := 43 } : Room), ⟨rfl, rfl, Nat.le_of_ble_eq_true rfl, Nat.le_of_ble_eq_true rfl⟩, fun {D cy K ad g} sz {th} hM => ?_⟩
      · have hTT : isT cy K ad g st sv nx sz2 ns ss bu ln := hT
        exact wx2_part l sz hT hO (by rfl) (by rfl) (by exact ⟨Nat.le_of_ble_eq_true rfl, Nat.le_of_ble_eq_true rfl⟩) (fun sz => (x_X4_part_iae l hfl sz hTT hi hb1).r ⟨hT, zFr.rf⟩)
      · obtain ⟨az, kn, lo, dg, hM⟩ := hM
        replace hM : isM cy K ad g 221 sx az so ik mv tx kn lo th (nI sz2) (nI ln) dg := hM
        exact z_postI (m_X5_partb2 l sz hM hi hb1) (fun r g1 h => ⟨fun q => absurd q (by decide), ⟨az, kn, lo, dg, h.2.1⟩, h.2.2⟩)
    · have hr0 : 0 ≤ p1 := Int32.not_lt.mp hb1
      refine ⟨0, partF st iz p1, (st, sv, nx, sz2, ns, ss, bu, ln), (sx, so, ik, mv, tx), by decide, hA0, fun {D cy K ad g} sz {w} hT hO => ?_, ({ frames := 2, cells := 0, slots := 0, locals := 43 } : Room), ⟨rfl, rfl, Nat.le_of_ble_eq_true rfl, Nat.le_of_ble_eq_true rfl⟩, fun {D cy K ad g} sz {th} hM => ?_⟩
      · have hTT : isT cy K ad g st sv nx sz2 ns ss bu ln := hT
        exact wok_part l sz hT hO (by rfl) (by rfl) (by exact ⟨Nat.le_of_ble_eq_true rfl, Nat.le_of_ble_eq_true rfl⟩) (fun sz => z_postI (m_X4_part l sz hTT hi hr0 hpc) (fun r g1 h => ⟨h.2, by rw [h.1]; exact hT, by rw [h.1]; exact zFr.rf⟩))
      · obtain ⟨az, kn, lo, dg, hM⟩ := hM
        replace hM : isM cy K ad g 221 sx az so ik mv tx kn lo th (nI sz2) (nI ln) dg := hM
        refine z_postI (m_X5_part l sz hM hi hr0 hpx) (fun r g1 h => ?_)
        exact ⟨fun _ => h.1.trans ((hE.partF' hpc hi hr0).symm), ⟨az, kn, lo, dg, h.2.1⟩, h.2.2⟩
set_option maxHeartbeats 1000000 in
theorem op_count (l : Launch) (hfl : l.stackTraces = false) {C : zCR} {M : zMR} (hA : AGr C M) (p0 : Int32) : ∃ (k : Nat) (v : Int32) (C2 : zCR) (M2 : zMR), k < 3 ∧ AGr C2 M2 ∧ (∀ {D : va_G} {cy : Nat → ClassId} {K : Nat} {ad : Nat → Nat} {g : Nat → va_E} (sz : Nat) {w : Int64}, cT cy K ad g C → oV cy K g w → wM l yL_count cL_count 4 [(0, 9, 12, 15)] [.ref (ad 0), .int p0, .ref (ad 230)] D cy K ad g sz k v C2) ∧ ∃ rm : Room, (rm.cells = 0 ∧ rm.slots = 0 ∧ rm.frames ≤ 100 ∧ rm.locals ≤ 1000) ∧ ∀ {D : va_G} {cy : Nat → ClassId} {K : Nat} {ad : Nat → Nat} {g : Nat → va_E} (sz : Nat) {th : Int32}, mT cy K ad g C.2.2.2.1 C.2.2.2.2.2.2.2 M th → Met l yX5_count (zs yX5_count cX5_count 2 (some .int)) rm (va_Pc [.ref (ad 221), .int p0] (zIn D cy K ad g sz)) (va_Qi (fun r g1 => (k = 0 → r = v) ∧ mT cy K ad g1 C2.2.2.2.1 C2.2.2.2.2.2.2.2 M2 (nI k) ∧ zFr (zRg 221 230) g g1) (zOut D cy K ad sz) (zA K ad sz)) 0 0 (zA K ad sz) := by
  obtain ⟨st, sv, nx, sz2, ns, ss, bu, ln⟩ := C
  obtain ⟨sx, so, ik, mv, tx⟩ := M
  have hA0 := hA
  obtain ⟨hst, hE, hnx, hsz, hsv, hsl, hln, hbt, hbu⟩ := hA
  dsimp only at hst hE hnx hsz hsv hsl hln hbt hbu
  have hpc := hst.pc
  have hpx := hE.pc hpc
  by_cases hb0 : p0 < 0 ∨ 10 ≤ p0
  · refine ⟨1, 0, (st, sv, nx, sz2, ns, ss, bu, ln), (sx, so, ik, mv, tx), by decide, hA0, fun {D cy K ad g} sz {w} hT hO => ?_, ({ frames := 7, cells := 0, slots := 0, locals := 153 } : Room), ⟨rfl, rfl, Nat.le_of_ble_eq_true rfl, Nat.le_of_ble_eq_true rfl⟩, fun {D cy K ad g} sz {th} hM => ?_⟩
    · have hTT : isT cy K ad g st sv nx sz2 ns ss bu ln := hT
      exact wx1_count l sz hT hO (by rfl) (by rfl) (by exact ⟨Nat.le_of_ble_eq_true rfl, Nat.le_of_ble_eq_true rfl⟩) (fun sz => (x_X4_count_iae l hfl sz hTT hb0).r ⟨hT, zFr.rf⟩)
    · obtain ⟨az, kn, lo, dg, hM⟩ := hM
      replace hM : isM cy K ad g 221 sx az so ik mv tx kn lo th (nI sz2) (nI ln) dg := hM
      exact z_postI (m_X5_countb1 l sz hM hb0) (fun r g1 h => ⟨fun q => absurd q (by decide), ⟨az, kn, lo, dg, h.2.1⟩, h.2.2⟩)
  · obtain ⟨wz, hw, rfl⟩ := z_rng (b := 10) (by decide) hb0
    refine ⟨0, countF st sz2 wz, (st, sv, nx, sz2, ns, ss, bu, ln), (sx, so, ik, mv, tx), by decide, hA0, fun {D cy K ad g} sz {w} hT hO => ?_, ({ frames := 7, cells := 0, slots := 0, locals := 153 } : Room), ⟨rfl, rfl, Nat.le_of_ble_eq_true rfl, Nat.le_of_ble_eq_true rfl⟩, fun {D cy K ad g} sz {th} hM => ?_⟩
    · have hTT : isT cy K ad g st sv nx sz2 ns ss bu ln := hT
      exact wok_count l sz hT hO (by rfl) (by rfl) (by exact ⟨Nat.le_of_ble_eq_true rfl, Nat.le_of_ble_eq_true rfl⟩) (fun sz => z_postI (m_X4_count l sz hTT hw hpc) (fun r g1 h => ⟨h.2, by rw [h.1]; exact hT, by rw [h.1]; exact zFr.rf⟩))
    · obtain ⟨az, kn, lo, dg, hM⟩ := hM
      replace hM : isM cy K ad g 221 sx az so ik mv tx kn lo th (nI sz2) (nI ln) dg := hM
      refine z_postI (m_X5_count l sz hM hw hpx) (fun r g1 h => ?_)
      exact ⟨fun _ => h.1.trans ((cnt_eq sx sz2 hw).trans (hE.countF' hpc sz2 hw).symm), ⟨az, kn, lo, dg, h.2.1⟩, h.2.2⟩
set_option maxHeartbeats 1000000 in
theorem op_byHue (l : Launch) (hfl : l.stackTraces = false) {C : zCR} {M : zMR} (hA : AGr C M) (p0 : Int32) : ∃ (k : Nat) (v : Int32) (C2 : zCR) (M2 : zMR), k < 3 ∧ AGr C2 M2 ∧ (∀ {D : va_G} {cy : Nat → ClassId} {K : Nat} {ad : Nat → Nat} {g : Nat → va_E} (sz : Nat) {w : Int64}, cT cy K ad g C → oV cy K g w → wM l yL_byHue cL_byHue 4 [(0, 9, 12, 15)] [.ref (ad 0), .int p0, .ref (ad 230)] D cy K ad g sz k v C2) ∧ ∃ rm : Room, (rm.cells = 0 ∧ rm.slots = 0 ∧ rm.frames ≤ 100 ∧ rm.locals ≤ 1000) ∧ ∀ {D : va_G} {cy : Nat → ClassId} {K : Nat} {ad : Nat → Nat} {g : Nat → va_E} (sz : Nat) {th : Int32}, mT cy K ad g C.2.2.2.1 C.2.2.2.2.2.2.2 M th → Met l yX5_byHue (zs yX5_byHue cX5_byHue 2 (some .int)) rm (va_Pc [.ref (ad 221), .int p0] (zIn D cy K ad g sz)) (va_Qi (fun r g1 => (k = 0 → r = v) ∧ mT cy K ad g1 C2.2.2.2.1 C2.2.2.2.2.2.2.2 M2 (nI k) ∧ zFr (zRg 221 230) g g1) (zOut D cy K ad sz) (zA K ad sz)) 0 0 (zA K ad sz) := by
  obtain ⟨st, sv, nx, sz2, ns, ss, bu, ln⟩ := C
  obtain ⟨sx, so, ik, mv, tx⟩ := M
  have hA0 := hA
  obtain ⟨hst, hE, hnx, hsz, hsv, hsl, hln, hbt, hbu⟩ := hA
  dsimp only at hst hE hnx hsz hsv hsl hln hbt hbu
  have hpc := hst.pc
  have hpx := hE.pc hpc
  by_cases hb0 : p0 < 0 ∨ 6 ≤ p0
  · refine ⟨1, 0, (st, sv, nx, sz2, ns, ss, bu, ln), (sx, so, ik, mv, tx), by decide, hA0, fun {D cy K ad g} sz {w} hT hO => ?_, ({ frames := 5, cells := 0, slots := 0, locals := 111 } : Room), ⟨rfl, rfl, Nat.le_of_ble_eq_true rfl, Nat.le_of_ble_eq_true rfl⟩, fun {D cy K ad g} sz {th} hM => ?_⟩
    · have hTT : isT cy K ad g st sv nx sz2 ns ss bu ln := hT
      exact wx1_byHue l sz hT hO (by rfl) (by rfl) (by exact ⟨Nat.le_of_ble_eq_true rfl, Nat.le_of_ble_eq_true rfl⟩) (fun sz => (x_X4_byHue_iae l hfl sz hTT hb0).r ⟨hT, zFr.rf⟩)
    · obtain ⟨az, kn, lo, dg, hM⟩ := hM
      replace hM : isM cy K ad g 221 sx az so ik mv tx kn lo th (nI sz2) (nI ln) dg := hM
      exact z_postI (m_X5_byHueb1 l sz hM hb0) (fun r g1 h => ⟨fun q => absurd q (by decide), ⟨az, kn, lo, dg, h.2.1⟩, h.2.2⟩)
  · have hu1 : ¬ p0 < 0 := fun q => hb0 (Or.inl q)
    have hu2 : p0 < 6 := Int32.not_le.mp (fun q => hb0 (Or.inr q))
    refine ⟨0, sumN (hueN st p0) 7, (st, sv, nx, sz2, ns, ss, bu, ln), (sx, so, ik, mv, tx), by decide, hA0, fun {D cy K ad g} sz {w} hT hO => ?_, ({ frames := 5, cells := 0, slots := 0, locals := 111 } : Room), ⟨rfl, rfl, Nat.le_of_ble_eq_true rfl, Nat.le_of_ble_eq_true rfl⟩, fun {D cy K ad g} sz {th} hM => ?_⟩
    · have hTT : isT cy K ad g st sv nx sz2 ns ss bu ln := hT
      exact wok_byHue l sz hT hO (by rfl) (by rfl) (by exact ⟨Nat.le_of_ble_eq_true rfl, Nat.le_of_ble_eq_true rfl⟩) (fun sz => z_postI (m_X4_byHue l sz hTT hu1 hu2) (fun r g1 h => ⟨h.2, by rw [h.1]; exact hT, by rw [h.1]; exact zFr.rf⟩))
    · obtain ⟨az, kn, lo, dg, hM⟩ := hM
      replace hM : isM cy K ad g 221 sx az so ik mv tx kn lo th (nI sz2) (nI ln) dg := hM
      refine z_postI (m_X5_byHue l sz hM hu1 hu2) (fun r g1 h => ?_)
      exact ⟨fun _ => h.1.trans ((hE.hueN' p0).symm), ⟨az, kn, lo, dg, h.2.1⟩, h.2.2⟩
set_option maxHeartbeats 1000000 in
theorem op_cordsFor (l : Launch) (hfl : l.stackTraces = false) {C : zCR} {M : zMR} (hA : AGr C M) (p0 p1 : Int32) : ∃ (k : Nat) (v : Int32) (C2 : zCR) (M2 : zMR), k < 3 ∧ AGr C2 M2 ∧ (∀ {D : va_G} {cy : Nat → ClassId} {K : Nat} {ad : Nat → Nat} {g : Nat → va_E} (sz : Nat) {w : Int64}, cT cy K ad g C → oV cy K g w → wM l yL_cordsFor cL_cordsFor 5 [(0, 10, 13, 15)] [.ref (ad 0), .int p0, .int p1, .ref (ad 230)] D cy K ad g sz k v C2) ∧ ∃ rm : Room, (rm.cells = 0 ∧ rm.slots = 0 ∧ rm.frames ≤ 100 ∧ rm.locals ≤ 1000) ∧ ∀ {D : va_G} {cy : Nat → ClassId} {K : Nat} {ad : Nat → Nat} {g : Nat → va_E} (sz : Nat) {th : Int32}, mT cy K ad g C.2.2.2.1 C.2.2.2.2.2.2.2 M th → Met l yX5_cordsFor (zs yX5_cordsFor cX5_cordsFor 3 (some .int)) rm (va_Pc [.ref (ad 221), .int p0, .int p1] (zIn D cy K ad g sz)) (va_Qi (fun r g1 => (k = 0 → r = v) ∧ mT cy K ad g1 C2.2.2.2.1 C2.2.2.2.2.2.2.2 M2 (nI k) ∧ zFr (zRg 221 230) g g1) (zOut D cy K ad sz) (zA K ad sz)) 0 0 (zA K ad sz) := by
  obtain ⟨st, sv, nx, sz2, ns, ss, bu, ln⟩ := C
  obtain ⟨sx, so, ik, mv, tx⟩ := M
  have hA0 := hA
  obtain ⟨hst, hE, hnx, hsz, hsv, hsl, hln, hbt, hbu⟩ := hA
  dsimp only at hst hE hnx hsz hsv hsl hln hbt hbu
  have hpc := hst.pc
  have hpx := hE.pc hpc
  by_cases hb0 : p0 < 1 ∨ 9999999 < p0
  · refine ⟨1, 0, (st, sv, nx, sz2, ns, ss, bu, ln), (sx, so, ik, mv, tx), by decide, hA0, fun {D cy K ad g} sz {w} hT hO => ?_, ({ frames := 6, cells := 0, slots := 0, locals := 134 } : Room), ⟨rfl, rfl, Nat.le_of_ble_eq_true rfl, Nat.le_of_ble_eq_true rfl⟩, fun {D cy K ad g} sz {th} hM => ?_⟩
    · have hTT : isT cy K ad g st sv nx sz2 ns ss bu ln := hT
      exact wx1_cordsFor l sz hT hO (by rfl) (by rfl) (by exact ⟨Nat.le_of_ble_eq_true rfl, Nat.le_of_ble_eq_true rfl⟩) (fun sz => (x_X4_cordsFor_iae l hfl sz hTT hb0).r ⟨hT, zFr.rf⟩)
    · obtain ⟨az, kn, lo, dg, hM⟩ := hM
      replace hM : isM cy K ad g 221 sx az so ik mv tx kn lo th (nI sz2) (nI ln) dg := hM
      exact z_postI (m_X5_cordsForb1 l sz hM hb0) (fun r g1 h => ⟨fun q => absurd q (by decide), ⟨az, kn, lo, dg, h.2.1⟩, h.2.2⟩)
  · have hs1 : ¬ p0 < 1 := fun q => hb0 (Or.inl q)
    have hs2 : p0 ≤ 9999999 := Int32.not_lt.mp (fun q => hb0 (Or.inr q))
    by_cases hb1 : p1 < 0 ∨ 2 ≤ p1
    · have hb2 : p1 ≠ 0 ∧ p1 ≠ 1 := ⟨fun q => by rw [q] at hb1; exact absurd hb1 (by decide), fun q => by rw [q] at hb1; exact absurd hb1 (by decide)⟩
      refine ⟨1, 0, (st, sv, nx, sz2, ns, ss, bu, ln), (sx, so, ik, mv, tx), by decide, hA0, fun {D cy K ad g} sz {w} hT hO => ?_, ({ frames := 6, cells := 0, slots := 0, locals := 134 } : Room), ⟨rfl, rfl, Nat.le_of_ble_eq_true rfl, Nat.le_of_ble_eq_true rfl⟩, fun {D cy K ad g} sz {th} hM => ?_⟩
      · have hTT : isT cy K ad g st sv nx sz2 ns ss bu ln := hT
        exact wx1_cordsFor l sz hT hO (by rfl) (by rfl) (by exact ⟨Nat.le_of_ble_eq_true rfl, Nat.le_of_ble_eq_true rfl⟩) (fun sz => (x_X4_cordsFor_iae2 l hfl sz hTT hs1 hs2 hb2).r ⟨hT, zFr.rf⟩)
      · obtain ⟨az, kn, lo, dg, hM⟩ := hM
        replace hM : isM cy K ad g 221 sx az so ik mv tx kn lo th (nI sz2) (nI ln) dg := hM
        exact z_postI (m_X5_cordsForb2 l sz hM hs1 hs2 hb1) (fun r g1 h => ⟨fun q => absurd q (by decide), ⟨az, kn, lo, dg, h.2.1⟩, h.2.2⟩)
    · obtain ⟨wz, hw, rfl⟩ := z_rng (b := 2) (by decide) hb1
      refine ⟨0, forF (cTold st) p0 wz, (st, sv, nx, sz2, ns, ss, bu, ln), (sx, so, ik, mv, tx), by decide, hA0, fun {D cy K ad g} sz {w} hT hO => ?_, ({ frames := 6, cells := 0, slots := 0, locals := 134 } : Room), ⟨rfl, rfl, Nat.le_of_ble_eq_true rfl, Nat.le_of_ble_eq_true rfl⟩, fun {D cy K ad g} sz {th} hM => ?_⟩
      · have hTT : isT cy K ad g st sv nx sz2 ns ss bu ln := hT
        exact wok_cordsFor l sz hT hO (by rfl) (by rfl) (by exact ⟨Nat.le_of_ble_eq_true rfl, Nat.le_of_ble_eq_true rfl⟩) (fun sz => z_postI (m_X4_cordsFor l sz hTT hs1 hs2 hw) (fun r g1 h => h))
      · obtain ⟨az, kn, lo, dg, hM⟩ := hM
        replace hM : isM cy K ad g 221 sx az so ik mv tx kn lo th (nI sz2) (nI ln) dg := hM
        refine z_postI (m_X5_cordsFor l sz hM hs1 hs2 hw) (fun r g1 h => ?_)
        exact ⟨fun _ => h.1.trans (((for_sf hst.tl hs1 hs2 wz).trans (hE.sfS p0 127)).symm), ⟨az, kn, lo, dg, h.2.1⟩, h.2.2⟩
set_option maxHeartbeats 1000000 in
theorem op_keep (l : Launch) (hfl : l.stackTraces = false) {C : zCR} {M : zMR} (hA : AGr C M) (p0 : Int32) (hk : ∀ jz, jz < 2 → p0 = nI jz → C.2.2.2.2.1 jz ≠ none) : ∃ (k : Nat) (v : Int32) (C2 : zCR) (M2 : zMR), k < 3 ∧ AGr C2 M2 ∧ (∀ {D : va_G} {cy : Nat → ClassId} {K : Nat} {ad : Nat → Nat} {g : Nat → va_E} (sz : Nat) {w : Int64}, cT cy K ad g C → oV cy K g w → wM l yL_keep cL_keep 4 [(0, 9, 12, 15)] [.ref (ad 0), .int p0, .ref (ad 230)] D cy K ad g sz k v C2) ∧ ∃ rm : Room, (rm.cells = 0 ∧ rm.slots = 0 ∧ rm.frames ≤ 100 ∧ rm.locals ≤ 1000) ∧ ∀ {D : va_G} {cy : Nat → ClassId} {K : Nat} {ad : Nat → Nat} {g : Nat → va_E} (sz : Nat) {th : Int32}, mT cy K ad g C.2.2.2.1 C.2.2.2.2.2.2.2 M th → Met l yX5_keep (zs yX5_keep cX5_keep 3 (some .int)) rm (va_Pc [.ref (ad 221), .int p0] (zIn D cy K ad g sz)) (va_Qi (fun r g1 => (k = 0 → r = v) ∧ mT cy K ad g1 C2.2.2.2.1 C2.2.2.2.2.2.2.2 M2 (nI k) ∧ zFr (zRg 221 230) g g1) (zOut D cy K ad sz) (zA K ad sz)) 0 0 (zA K ad sz) := by
  obtain ⟨st, sv, nx, sz2, ns, ss, bu, ln⟩ := C
  obtain ⟨sx, so, ik, mv, tx⟩ := M
  have hA0 := hA
  obtain ⟨hst, hE, hnx, hsz, hsv, hsl, hln, hbt, hbu⟩ := hA
  dsimp only at hst hE hnx hsz hsv hsl hln hbt hbu
  have hpc := hst.pc
  have hpx := hE.pc hpc
  dsimp only at hk
  by_cases hb0 : p0 < 0 ∨ 2 ≤ p0
  · refine ⟨1, 0, (st, sv, nx, sz2, ns, ss, bu, ln), (sx, so, ik, mv, tx), by decide, hA0, fun {D cy K ad g} sz {w} hT hO => ?_, ({ frames := 4, cells := 0, slots := 0, locals := 88 } : Room), ⟨rfl, rfl, Nat.le_of_ble_eq_true rfl, Nat.le_of_ble_eq_true rfl⟩, fun {D cy K ad g} sz {th} hM => ?_⟩
    · have hTT : isT cy K ad g st sv nx sz2 ns ss bu ln := hT
      exact wx1_keep l sz hT hO (by rfl) (by rfl) (by exact ⟨Nat.le_of_ble_eq_true rfl, Nat.le_of_ble_eq_true rfl⟩) (fun sz => (x_X4_keep_iae l hfl sz hTT hb0).r ⟨hT, zFr.rf⟩)
    · obtain ⟨az, kn, lo, dg, hM⟩ := hM
      replace hM : isM cy K ad g 221 sx az so ik mv tx kn lo th (nI sz2) (nI ln) dg := hM
      exact z_postI (m_X5_keepb1 l sz hM hb0) (fun r g1 h => ⟨fun q => absurd q (by decide), ⟨az, kn, lo, dg, h.2.1⟩, h.2.2⟩)
  · obtain ⟨jz, hj, rfl⟩ := z_rng (b := 2) (by decide) hb0
    obtain ⟨na, hns⟩ := opt_some (hk jz hj rfl)
    refine ⟨0, sumN (allK st) 7 + sumN (allL st) 7, (st, sv, nx, sz2, ns, va_up ss jz st, bu, ln), (sx, wrF so jz sx 223, upd ik jz 1, mv, tx), by decide, ⟨hst, hE, hnx, hsz, hsv, hsl.put hj hE hst hns (fun _ _ => rfl), hln, hbt, hbu⟩, fun {D cy K ad g} sz {w} hT hO => ?_, ({ frames := 4, cells := 0, slots := 0, locals := 88 } : Room), ⟨rfl, rfl, Nat.le_of_ble_eq_true rfl, Nat.le_of_ble_eq_true rfl⟩, fun {D cy K ad g} sz {th} hM => ?_⟩
    · have hTT : isT cy K ad g st sv nx sz2 ns ss bu ln := hT
      exact wok_keep l sz hT hO (by rfl) (by rfl) (by exact ⟨Nat.le_of_ble_eq_true rfl, Nat.le_of_ble_eq_true rfl⟩) (fun sz => z_postI (m_X4_keep l sz hTT hj hns) (fun r g1 h => h))
    · obtain ⟨az, kn, lo, dg, hM⟩ := hM
      replace hM : isM cy K ad g 221 sx az so ik mv tx kn lo th (nI sz2) (nI ln) dg := hM
      refine z_postI (m_X5_keep l sz hM hj) (fun r g1 h => ?_)
      exact ⟨fun _ => h.1.trans ((sumN_congr (fun k hk => (hE.ti hk).symm)).trans (ties_all _).symm), ⟨az, kn, lo, dg, h.2.1⟩, h.2.2⟩
