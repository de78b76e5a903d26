/-! ===== the calls of the law that don't catch ===== -/
theorem z_postD {l : Launch} {y : MethodName} {ws : List Cond} {rm : Room} {Pc : Array Value → State → Prop} {mc ms : Nat} {free : Addr → Prop} {post post' : UInt64 → (Nat → va_E) → Prop} {B : (Nat → va_E) → State → Prop} {A : Nat → Prop} (h : Met l y ws rm Pc (va_Qd post B A) mc ms free) (hq : ∀ r g1, post r g1 → post' r g1) : Met l y ws rm Pc (va_Qd post' B A) mc ms free :=
  z_mono h (fun a s o t _ h => by
    obtain ⟨⟨r, u, h1, h2, h3⟩, h4⟩ := h
    exact ⟨⟨r, u, h1, hq r u h2, h3⟩, h4⟩)
theorem sE.sA {st s : Nat → Int32} (h : sE st s) : shA s = 10 * sumN (allL st) 7 := by
  rw [shA_eq]
  exact congrArg (fun z => 10 * z) (sumN_congr (fun k hk => (sumN_congr (m := 6) (h.L hk)).symm))
theorem sE.sB {st s : Nat → Int32} (h : sE st s) : shB s = sumN (allK st) 7 := by
  rw [shB_eq]
  exact sumN_congr (fun k hk => (sumN_congr (m := 6) (h.K hk)).symm)
set_option maxHeartbeats 1000000 in
theorem op_clearBuffer (l : Launch) {C : zCR} {M : zMR} (hA : AGr C M) : ∃ (v : Int32) (C2 : zCR) (M2 : zMR), AGr C2 M2 ∧ (∀ {D : va_G} {cy : Nat → ClassId} {K : Nat} {ad : Nat → Nat} {g : Nat → va_E} (sz : Nat), cT cy K ad g C → Met l yX4_clearBuffer (zs yX4_clearBuffer cX4_clearBuffer 2 (some .int)) ({ frames := 0, cells := 0, slots := 0, locals := 0 } : Room) (va_Pc [.ref (ad 0)] (zIn D cy K ad g sz)) (va_Qi (fun r g1 => r = v ∧ cT cy K ad g1 C2 ∧ zFr zCl g g1) (zOut D cy K ad sz) (zA K ad sz)) 0 0 (zA K ad sz)) ∧ ∀ {D : va_G} {cy : Nat → ClassId} {K : Nat} {ad : Nat → Nat} {g : Nat → va_E} (sz : Nat) {th : Int32}, mT cy K ad g C.2.2.2.1 C.2.2.2.2.2.2.2 M th → Met l yX5_clearBuffer (zs yX5_clearBuffer cX5_clearBuffer 2 (some .int)) ({ frames := 0, cells := 0, slots := 0, locals := 0 } : Room) (va_Pc [.ref (ad 221)] (zIn D cy K ad g sz)) (va_Qi (fun r g1 => r = v ∧ mT cy K ad g1 C2.2.2.2.1 C2.2.2.2.2.2.2.2 M2 0 ∧ zFr (zRg 221 230) g g1) (zOut D cy K ad sz) (zA K ad sz)) 0 0 (zA K ad sz) := by
  obtain ⟨st, sv, nx, sz2, ns, ss, bu, ln⟩ := C
  obtain ⟨sx, so, ik, mv, tx⟩ := M
  have hA0 := hA
  obtain ⟨hst, hE, hnx, hsz, hsv, hsl, hln, hbt, hbu⟩ := hA
  dsimp only at hst hE hnx hsz hsv hsl hln hbt hbu
  have hpc := hst.pc
  have hpx := hE.pc hpc
  refine ⟨nI ln, (st, sv, nx, sz2, ns, ss, bu, 0), (sx, so, ik, mv, tx), ⟨hst, hE, hnx, hsz, hsv, hsl, Nat.zero_le _, fun k hk => absurd hk (Nat.not_lt_zero _), fun k hk => absurd hk (Nat.not_lt_zero _)⟩, fun {D cy K ad g} sz hT => ?_, fun {D cy K ad g} sz {th} hM => ?_⟩
  · have hTT : isT cy K ad g st sv nx sz2 ns ss bu ln := hT
    exact z_postI (m_X4_clearBuffer l sz hTT ) (fun r g1 h => h)
  · obtain ⟨az, kn, lo, dg, hM⟩ := hM
    replace hM : isM cy K ad g 221 sx az so ik mv tx kn lo th (nI sz2) (nI ln) dg := hM
    refine z_postI (m_X5_clearBuffer l sz hM ) (fun r g1 h => ?_)
    exact ⟨h.1.trans (rfl), ⟨az, kn, lo, dg, h.2.1⟩, h.2.2⟩
set_option maxHeartbeats 1000000 in
theorem op_firstError (l : Launch) {C : zCR} {M : zMR} (hA : AGr C M) : ∃ (v : Int32) (C2 : zCR) (M2 : zMR), AGr C2 M2 ∧ (∀ {D : va_G} {cy : Nat → ClassId} {K : Nat} {ad : Nat → Nat} {g : Nat → va_E} (sz : Nat), cT cy K ad g C → Met l yX4_firstError (zs yX4_firstError cX4_firstError 1 (some .int)) ({ frames := 4, cells := 0, slots := 0, locals := 84 } : Room) (va_Pc [.ref (ad 0)] (zIn D cy K ad g sz)) (va_Qi (fun r g1 => r = v ∧ cT cy K ad g1 C2 ∧ zFr zCl g g1) (zOut D cy K ad sz) (zA K ad sz)) 0 0 (zA K ad sz)) ∧ ∀ {D : va_G} {cy : Nat → ClassId} {K : Nat} {ad : Nat → Nat} {g : Nat → va_E} (sz : Nat) {th : Int32}, mT cy K ad g C.2.2.2.1 C.2.2.2.2.2.2.2 M th → Met l yX5_firstError (zs yX5_firstError cX5_firstError 1 (some .int)) ({ frames := 5, cells := 0, slots := 0, locals := 109 } : Room) (va_Pc [.ref (ad 221)] (zIn D cy K ad g sz)) (va_Qi (fun r g1 => r = v ∧ mT cy K ad g1 C2.2.2.2.1 C2.2.2.2.2.2.2.2 M2 0 ∧ zFr (zRg 221 230) g g1) (zOut D cy K ad sz) (zA K ad sz)) 0 0 (zA K ad sz) := by
  obtain ⟨st, sv, nx, sz2, ns, ss, bu, ln⟩ := C
  obtain ⟨sx, so, ik, mv, tx⟩ := M
  have hA0 := hA
  obtain ⟨hst, hE, hnx, hsz, hsv, hsl, hln, hbt, hbu⟩ := hA
  dsimp only at hst hE hnx hsz hsv hsl hln hbt hbu
  have hpc := hst.pc
  have hpx := hE.pc hpc
  refine ⟨nI (errN bu rs0 ln), (st, sv, nx, sz2, ns, ss, bu, ln), (sx, so, ik, mv, tx), hA0, fun {D cy K ad g} sz hT => ?_, fun {D cy K ad g} sz {th} hM => ?_⟩
  · have hTT : isT cy K ad g st sv nx sz2 ns ss bu ln := hT
    exact z_postI (m_X4_firstError l sz hTT hln hbu) (fun r g1 h => h)
  · obtain ⟨az, kn, lo, dg, hM⟩ := hM
    replace hM : isM cy K ad g 221 sx az so ik mv tx kn lo th (nI sz2) (nI ln) dg := hM
    refine z_postI (m_X5_firstError l sz hM hln) (fun r g1 h => ?_)
    exact ⟨h.1.trans ((err_eq hbt).symm), ⟨az, kn, lo, dg, h.2.1⟩, h.2.2⟩
set_option maxHeartbeats 1000000 in
theorem op_fullest (l : Launch) {C : zCR} {M : zMR} (hA : AGr C M) : ∃ (v : Int32) (C2 : zCR) (M2 : zMR), AGr C2 M2 ∧ (∀ {D : va_G} {cy : Nat → ClassId} {K : Nat} {ad : Nat → Nat} {g : Nat → va_E} (sz : Nat), cT cy K ad g C → Met l yX4_fullest (zs yX4_fullest cX4_fullest 1 (some .int)) ({ frames := 4, cells := 0, slots := 0, locals := 85 } : Room) (va_Pc [.ref (ad 0)] (zIn D cy K ad g sz)) (va_Qi (fun r g1 => r = v ∧ cT cy K ad g1 C2 ∧ zFr zCl g g1) (zOut D cy K ad sz) (zA K ad sz)) 0 0 (zA K ad sz)) ∧ ∀ {D : va_G} {cy : Nat → ClassId} {K : Nat} {ad : Nat → Nat} {g : Nat → va_E} (sz : Nat) {th : Int32}, mT cy K ad g C.2.2.2.1 C.2.2.2.2.2.2.2 M th → Met l yX5_fullest (zs yX5_fullest cX5_fullest 1 (some .int)) ({ frames := 4, cells := 0, slots := 0, locals := 88 } : Room) (va_Pc [.ref (ad 221)] (zIn D cy K ad g sz)) (va_Qi (fun r g1 => r = v ∧ mT cy K ad g1 C2.2.2.2.1 C2.2.2.2.2.2.2.2 M2 0 ∧ zFr (zRg 221 230) g g1) (zOut D cy K ad sz) (zA K ad sz)) 0 0 (zA K ad sz) := by
  obtain ⟨st, sv, nx, sz2, ns, ss, bu, ln⟩ := C
  obtain ⟨sx, so, ik, mv, tx⟩ := M
  have hA0 := hA
  obtain ⟨hst, hE, hnx, hsz, hsv, hsl, hln, hbt, hbu⟩ := hA
  dsimp only at hst hE hnx hsz hsv hsl hln hbt hbu
  have hpc := hst.pc
  have hpx := hE.pc hpc
  refine ⟨nI (fulN st 6), (st, sv, nx, sz2, ns, ss, bu, ln), (sx, so, ik, mv, tx), hA0, fun {D cy K ad g} sz hT => ?_, fun {D cy K ad g} sz {th} hM => ?_⟩
  · have hTT : isT cy K ad g st sv nx sz2 ns ss bu ln := hT
    exact z_postI (m_X4_fullest l sz hTT ) (fun r g1 h => ⟨h.2, by rw [h.1]; exact hT, by rw [h.1]; exact zFr.rf⟩)
  · obtain ⟨az, kn, lo, dg, hM⟩ := hM
    replace hM : isM cy K ad g 221 sx az so ik mv tx kn lo th (nI sz2) (nI ln) dg := hM
    refine z_postI (m_X5_fullest l sz hM ) (fun r g1 h => ?_)
    exact ⟨h.1.trans (congrArg nI (hE.fulN' 6 (Nat.le_refl _)).symm), ⟨az, kn, lo, dg, h.2.1⟩, h.2.2⟩
set_option maxHeartbeats 1000000 in
theorem op_closedShare (l : Launch) {C : zCR} {M : zMR} (hA : AGr C M) : ∃ (v : UInt64) (C2 : zCR) (M2 : zMR), AGr C2 M2 ∧ (∀ {D : va_G} {cy : Nat → ClassId} {K : Nat} {ad : Nat → Nat} {g : Nat → va_E} (sz : Nat), cT cy K ad g C → Met l yX4_closedShare (zs yX4_closedShare cX4_closedShare 2 (some .double)) ({ frames := 3, cells := 0, slots := 0, locals := 68 } : Room) (va_Pc [.ref (ad 0)] (zIn D cy K ad g sz)) (va_Qd (fun r g1 => r = v ∧ cT cy K ad g1 C2 ∧ zFr zCl g g1) (zOut D cy K ad sz) (zA K ad sz)) 0 0 (zA K ad sz)) ∧ ∀ {D : va_G} {cy : Nat → ClassId} {K : Nat} {ad : Nat → Nat} {g : Nat → va_E} (sz : Nat) {th : Int32}, mT cy K ad g C.2.2.2.1 C.2.2.2.2.2.2.2 M th → Met l yX5_closedShare (zs yX5_closedShare cX5_closedShare 1 (some .double)) ({ frames := 4, cells := 0, slots := 0, locals := 89 } : Room) (va_Pc [.ref (ad 221)] (zIn D cy K ad g sz)) (va_Qd (fun r g1 => r = v ∧ mT cy K ad g1 C2.2.2.2.1 C2.2.2.2.2.2.2.2 M2 0 ∧ zFr (zRg 221 230) g g1) (zOut D cy K ad sz) (zA K ad sz)) 0 0 (zA K ad sz) := by
  obtain ⟨st, sv, nx, sz2, ns, ss, bu, ln⟩ := C
  obtain ⟨sx, so, ik, mv, tx⟩ := M
  have hA0 := hA
  obtain ⟨hst, hE, hnx, hsz, hsv, hsl, hln, hbt, hbu⟩ := hA
  dsimp only at hst hE hnx hsz hsv hsl hln hbt hbu
  have hpc := hst.pc
  have hpx := hE.pc hpc
  refine ⟨shaF (10 * sumN (allL st) 7) (sumN (allK st) 7), (st, sv, nx, sz2, ns, ss, bu, ln), (sx, so, ik, mv, tx), hA0, fun {D cy K ad g} sz hT => ?_, fun {D cy K ad g} sz {th} hM => ?_⟩
  · have hTT : isT cy K ad g st sv nx sz2 ns ss bu ln := hT
    exact z_postD (m_X4_closedShare l sz hTT ) (fun r g1 h => ⟨h.2, by rw [h.1]; exact hT, by rw [h.1]; exact zFr.rf⟩)
  · obtain ⟨az, kn, lo, dg, hM⟩ := hM
    replace hM : isM cy K ad g 221 sx az so ik mv tx kn lo th (nI sz2) (nI ln) dg := hM
    refine z_postD (m_X5_closedShare l sz hM ) (fun r g1 h => ?_)
    exact ⟨h.1.trans (by rw [hE.sA, hE.sB]), ⟨az, kn, lo, dg, h.2.1⟩, h.2.2⟩
set_option maxHeartbeats 1000000 in
theorem op_digest (l : Launch) {C : zCR} {M : zMR} (hA : AGr C M) : ∃ (v : Int64) (C2 : zCR) (M2 : zMR), AGr C2 M2 ∧ (∀ {D : va_G} {cy : Nat → ClassId} {K : Nat} {ad : Nat → Nat} {g : Nat → va_E} (sz : Nat), cT cy K ad g C → Met l yX4_digest (zs yX4_digest cX4_digest 4 (some .long)) ({ frames := 12, cells := 0, slots := 0, locals := 342 } : Room) (va_Pc [.ref (ad 0)] (zIn D cy K ad g sz)) (va_Ql (fun r g1 => r = v ∧ cT cy K ad g1 C2 ∧ zFr zCl g g1) (zOut D cy K ad sz) (zA K ad sz)) 0 0 (zA K ad sz)) ∧ ∀ {D : va_G} {cy : Nat → ClassId} {K : Nat} {ad : Nat → Nat} {g : Nat → va_E} (sz : Nat) {th : Int32}, mT cy K ad g C.2.2.2.1 C.2.2.2.2.2.2.2 M th → Met l yX5_digest (zs yX5_digest cX5_digest 2 (some .long)) ({ frames := 9, cells := 0, slots := 0, locals := 206 } : Room) (va_Pc [.ref (ad 221)] (zIn D cy K ad g sz)) (va_Ql (fun r g1 => r = v ∧ mT cy K ad g1 C2.2.2.2.1 C2.2.2.2.2.2.2.2 M2 0 ∧ zFr (zRg 221 230) g g1) (zOut D cy K ad sz) (zA K ad sz)) 0 0 (zA K ad sz) := by
  obtain ⟨st, sv, nx, sz2, ns, ss, bu, ln⟩ := C
  obtain ⟨sx, so, ik, mv, tx⟩ := M
  have hA0 := hA
  obtain ⟨hst, hE, hnx, hsz, hsv, hsl, hln, hbt, hbu⟩ := hA
  dsimp only at hst hE hnx hsz hsv hsl hln hbt hbu
  have hpc := hst.pc
  have hpx := hE.pc hpc
  refine ⟨dg9 st sz2 ns bu ln ln, (st, sv, nx, sz2, ns, ss, bu, ln), (sx, so, ik, mv, tx), hA0, fun {D cy K ad g} sz hT => ?_, fun {D cy K ad g} sz {th} hM => ?_⟩
  · have hTT : isT cy K ad g st sv nx sz2 ns ss bu ln := hT
    exact z_postL (m_X4_digest l sz hTT hpc hln) (fun r g1 h => h)
  · obtain ⟨az, kn, lo, dg, hM⟩ := hM
    replace hM : isM cy K ad g 221 sx az so ik mv tx kn lo th (nI sz2) (nI ln) dg := hM
    refine z_postL (m_X5_digest l sz hM hpx (fun iz hi => (hst.sE hE).hge hi (by decide) (by decide)) hln (bz := 1022) (by decide) (by rw [hE.sA, hE.sB]; exact (bits_eq hst.nl hst.nk).2)) (fun r g1 h => ?_)
    obtain ⟨h1, ⟨az2, kn2, lo2, dg2, h2⟩, h3⟩ := h
    exact ⟨h1.trans (dg_eq hE hpc hst.tl hst.nl hst.nk hsl.kept hbt).symm, ⟨az2, kn2, lo2, dg2, h2⟩, h3⟩
