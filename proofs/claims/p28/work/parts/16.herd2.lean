set_option maxHeartbeats 4000000 in
set_option maxRecDepth 100000 in
theorem m_X1_told (l : Launch) {D : va_G} {cy : Nat → ClassId} {K : Nat} {ad : Nat → Nat} {g : Nat → va_E} (sz : Nat) {n : Nat} {st : Nat → Int32} (hH : isH cy K ad g n st) : Met l yX1_told (zs yX1_told cX1_told 6 (some .int)) ({ frames := 2, cells := 0, slots := 0, locals := 43 } : Room) (va_Pc [.ref (ad n)] (zIn D cy K ad g sz)) (va_Qi (fun r g1 => g1 = g ∧ r = sumN (cTold st) 7) (zOut D cy K ad sz) (zA K ad sz)) 0 0 (zA K ad sz) := by
  refine z_met (by decide) (Nat.le_of_ble_eq_true rfl) (fun p e s m below meth c ls hsz hl C0 hr hnm hP hS => ?_)
  subst hsz
  have hl : lv_has ls 6 [(0, .ref (ad n))] := hl
  have hx := C0.1; have hb := C0.2.1; have hown := C0.2.2.2.1; have hts := C0.2.2.2.2.1
  obtain ⟨rw, hG, hrw, hCs⟩ := id hH
  refine lv_iconst (v := 0) hx hb dX1_told_0 (by decide) ?_
  refine lv_istore_n (lv' := [(1, .int 0), (0, .ref (ad n))]) hx hb dX1_told_1 rfl hl (by decide) rfl (fun ls hl => ?_)
  refine lv_aload_n hx hb dX1_told_2 rfl (lv_at hl 1 rfl) ?_
  refine z_get C0 hP hG.n0 hG.o fd_X1_11 rfl dX1_told_3 ?_
  refine lv_astore_n (lv' := [(2, .ref (ad (n + 1))), (1, .int 0), (0, .ref (ad n))]) hx hb dX1_told_6 rfl hl (by decide) rfl (fun ls hl => ?_)
  refine lv_aload_n hx hb dX1_told_7 rfl (lv_at hl 0 rfl) ?_
  refine z_alen (v := 7) C0 hP hG.n1 hG.a_rw rfl rfl dX1_told_8 ?_
  refine lv_istore_n (lv' := [(3, .int 7), (2, .ref (ad (n + 1))), (1, .int 0), (0, .ref (ad n))]) hx hb dX1_told_9 rfl hl (by decide) rfl (fun ls hl => ?_)
  refine lv_iconst (v := 0) hx hb dX1_told_10 (by decide) ?_
  refine lv_istore (lv' := [(4, .int 0), (3, .int 7), (2, .ref (ad (n + 1))), (1, .int 0), (0, .ref (ad n))]) hx hb dX1_told_11 hl (by decide) rfl (fun ls hl => ?_)
  have lp_13 : ∀ (N : Nat) (kz : Nat) (hk : kz ≤ 7), 7 - kz < N → ∀ (H : Heap) (locs : List Loc) (ls : Array Slot), zP D K ad g (zA K ad s.heap.size) H → va_S (zA K ad s.heap.size) s.heap H locs → lv_has ls 6 [(0, .ref (ad n)), (1, .int (sumN (cTold st) kz)), (2, .ref (ad (n + 1))), (3, .int 7), (4, .int (nI kz))] → W p l e ({ frames := 2, cells := 0, slots := 0, locals := 43 } : Room) s m [.ref (ad n)].toArray below meth c H locs 0 0 (MQ below (va_Qi (fun r g1 => g1 = g ∧ r = sumN (cTold st) 7) (zOut D cy K ad s.heap.size) (zA K ad s.heap.size)) [.ref (ad n)].toArray s 0 0 (zA K ad s.heap.size)) (F0 m 13 ls []) := by
    intro N
    induction N with
    | zero => intro kz hk hN; exact absurd hN (Nat.not_lt_zero _)
    | succ N ih_13 =>
      intro kz hk hN H locs ls hP hS  hl
      refine lv_iload hx hb dX1_told_13 (lv_at hl 4 rfl) ?_
      refine lv_iload_n hx hb dX1_told_15 rfl (lv_at hl 3 rfl) ?_
      refine lv_icmp_ge (tgt := 39) hx hb dX1_told_16 (by decide) (fun c_16 => ?_) (fun c_16 => ?_)
      · have hk2 : kz = 7 := by have := z_ge_t (b := 7) c_16 (by omega) (by omega); omega
        subst hk2
        refine lv_iload_n hx hb dX1_told_39 rfl (lv_at hl 1 rfl) ?_
        exact z_iret C0 hP hS hr (⟨rfl, rfl⟩) dX1_told_40
      · have hk2 : kz < 7 := z_ge_f (b := 7) c_16 (by omega) (by omega)
        refine lv_aload_n hx hb dX1_told_19 rfl (lv_at hl 2 rfl) ?_
        refine lv_iload hx hb dX1_told_20 (lv_at hl 4 rfl) ?_
        refine z_aald C0 hP hG.n1 hG.a_rw rfl (zIx_nI (by omega) (by decide)) (congrArg va_rf (hrw kz hk2)) dX1_told_22 ?_
        refine lv_astore (lv' := [(5, .ref (ad (n + 2 + 4 * kz))), (0, .ref (ad n)), (1, .int (sumN (cTold st) kz)), (2, .ref (ad (n + 1))), (3, .int 7), (4, .int (nI kz))]) hx hb dX1_told_23 hl (by decide) rfl (fun ls hl => ?_)
        refine lv_iload_n hx hb dX1_told_25 rfl (lv_at hl 2 rfl) ?_
        refine lv_aload hx hb dX1_told_26 (lv_at hl 0 rfl) ?_
        obtain ⟨kn, lo, pa, hC, h1, h2, h3⟩ := hCs kz hk2
        refine z_Vi_eq (As := []) (rest := [.int (sumN (cTold st) kz)]) C0 hP hS hl.1 (m_X0_told l _ hC) lk_X1_60 hC.n0 hC.o rfl rfl (Nat.le_of_ble_eq_true rfl) ⟨Nat.le_of_ble_eq_true rfl, Nat.le_of_ble_eq_true rfl⟩ rfl rfl ⟨Nat.zero_le _, Nat.zero_le _⟩ dX1_told_28 (fun H locs hP hS => ?_)
        refine lv_iadd hx hb dX1_told_31 ?_
        refine z_topi (y := sumN (cTold st) (kz + 1)) (by rw [tld_congr h1 h2 6]; rfl) ?_
        refine lv_istore_n (lv' := [(1, .int (sumN (cTold st) (kz + 1))), (5, .ref (ad (n + 2 + 4 * kz))), (0, .ref (ad n)), (2, .ref (ad (n + 1))), (3, .int 7), (4, .int (nI kz))]) hx hb dX1_told_32 rfl hl (by decide) rfl (fun ls hl => ?_)
        refine lv_iinc (v := nI (kz + 1)) (lv' := [(4, .int (nI (kz + 1))), (1, .int (sumN (cTold st) (kz + 1))), (5, .ref (ad (n + 2 + 4 * kz))), (0, .ref (ad n)), (2, .ref (ad (n + 1))), (3, .int 7)]) hx hb dX1_told_33 hl (k := 5) rfl (z_inc _) (by decide) rfl (fun ls hl => ?_)
        refine lv_goto (tgt := 13) hx hb dX1_told_36 (by decide) ?_
        exact ih_13 (kz + 1) hk2 (by omega) _ _ _ hP hS  (lv_sub hl [3, 1, 4, 5, 0] rfl)
  exact lp_13 _ 0 (Nat.zero_le _) (Nat.lt_succ_self _) _ _ _ hP hS  (lv_sub hl [4, 3, 2, 1, 0] rfl)
set_option maxHeartbeats 4000000 in
set_option maxRecDepth 100000 in
theorem m_X1_knots (l : Launch) {D : va_G} {cy : Nat → ClassId} {K : Nat} {ad : Nat → Nat} {g : Nat → va_E} (sz : Nat) {n : Nat} {st : Nat → Int32} (hH : isH cy K ad g n st) : Met l yX1_knots (zs yX1_knots cX1_knots 6 (some .int)) ({ frames := 2, cells := 0, slots := 0, locals := 43 } : Room) (va_Pc [.ref (ad n)] (zIn D cy K ad g sz)) (va_Qi (fun r g1 => g1 = g ∧ r = sumN (allK st) 7) (zOut D cy K ad sz) (zA K ad sz)) 0 0 (zA K ad sz) := by
  refine z_met (by decide) (Nat.le_of_ble_eq_true rfl) (fun p e s m below meth c ls hsz hl C0 hr hnm hP hS => ?_)
  subst hsz
  have hl : lv_has ls 6 [(0, .ref (ad n))] := hl
  have hx := C0.1; have hb := C0.2.1; have hown := C0.2.2.2.1; have hts := C0.2.2.2.2.1
  obtain ⟨rw, hG, hrw, hCs⟩ := id hH
  refine lv_iconst (v := 0) hx hb dX1_knots_0 (by decide) ?_
  refine lv_istore_n (lv' := [(1, .int 0), (0, .ref (ad n))]) hx hb dX1_knots_1 rfl hl (by decide) rfl (fun ls hl => ?_)
  refine lv_aload_n hx hb dX1_knots_2 rfl (lv_at hl 1 rfl) ?_
  refine z_get C0 hP hG.n0 hG.o fd_X1_11 rfl dX1_knots_3 ?_
  refine lv_astore_n (lv' := [(2, .ref (ad (n + 1))), (1, .int 0), (0, .ref (ad n))]) hx hb dX1_knots_6 rfl hl (by decide) rfl (fun ls hl => ?_)
  refine lv_aload_n hx hb dX1_knots_7 rfl (lv_at hl 0 rfl) ?_
  refine z_alen (v := 7) C0 hP hG.n1 hG.a_rw rfl rfl dX1_knots_8 ?_
  refine lv_istore_n (lv' := [(3, .int 7), (2, .ref (ad (n + 1))), (1, .int 0), (0, .ref (ad n))]) hx hb dX1_knots_9 rfl hl (by decide) rfl (fun ls hl => ?_)
  refine lv_iconst (v := 0) hx hb dX1_knots_10 (by decide) ?_
  refine lv_istore (lv' := [(4, .int 0), (3, .int 7), (2, .ref (ad (n + 1))), (1, .int 0), (0, .ref (ad n))]) hx hb dX1_knots_11 hl (by decide) rfl (fun ls hl => ?_)
  have lp_13 : ∀ (N : Nat) (kz : Nat) (hk : kz ≤ 7), 7 - kz < N → ∀ (H : Heap) (locs : List Loc) (ls : Array Slot), zP D K ad g (zA K ad s.heap.size) H → va_S (zA K ad s.heap.size) s.heap H locs → lv_has ls 6 [(0, .ref (ad n)), (1, .int (sumN (allK st) kz)), (2, .ref (ad (n + 1))), (3, .int 7), (4, .int (nI kz))] → W p l e ({ frames := 2, cells := 0, slots := 0, locals := 43 } : Room) s m [.ref (ad n)].toArray below meth c H locs 0 0 (MQ below (va_Qi (fun r g1 => g1 = g ∧ r = sumN (allK st) 7) (zOut D cy K ad s.heap.size) (zA K ad s.heap.size)) [.ref (ad n)].toArray s 0 0 (zA K ad s.heap.size)) (F0 m 13 ls []) := by
    intro N
    induction N with
    | zero => intro kz hk hN; exact absurd hN (Nat.not_lt_zero _)
    | succ N ih_13 =>
      intro kz hk hN H locs ls hP hS  hl
      refine lv_iload hx hb dX1_knots_13 (lv_at hl 4 rfl) ?_
      refine lv_iload_n hx hb dX1_knots_15 rfl (lv_at hl 3 rfl) ?_
      refine lv_icmp_ge (tgt := 39) hx hb dX1_knots_16 (by decide) (fun c_16 => ?_) (fun c_16 => ?_)
      · have hk2 : kz = 7 := by have := z_ge_t (b := 7) c_16 (by omega) (by omega); omega
        subst hk2
        refine lv_iload_n hx hb dX1_knots_39 rfl (lv_at hl 1 rfl) ?_
        exact z_iret C0 hP hS hr (⟨rfl, rfl⟩) dX1_knots_40
      · have hk2 : kz < 7 := z_ge_f (b := 7) c_16 (by omega) (by omega)
        refine lv_aload_n hx hb dX1_knots_19 rfl (lv_at hl 2 rfl) ?_
        refine lv_iload hx hb dX1_knots_20 (lv_at hl 4 rfl) ?_
        refine z_aald C0 hP hG.n1 hG.a_rw rfl (zIx_nI (by omega) (by decide)) (congrArg va_rf (hrw kz hk2)) dX1_knots_22 ?_
        refine lv_astore (lv' := [(5, .ref (ad (n + 2 + 4 * kz))), (0, .ref (ad n)), (1, .int (sumN (allK st) kz)), (2, .ref (ad (n + 1))), (3, .int 7), (4, .int (nI kz))]) hx hb dX1_knots_23 hl (by decide) rfl (fun ls hl => ?_)
        refine lv_iload_n hx hb dX1_knots_25 rfl (lv_at hl 2 rfl) ?_
        refine lv_aload hx hb dX1_knots_26 (lv_at hl 0 rfl) ?_
        obtain ⟨kn, lo, pa, hC, h1, h2, h3⟩ := hCs kz hk2
        refine z_Vi_eq (As := []) (rest := [.int (sumN (allK st) kz)]) C0 hP hS hl.1 (m_X0_allKnots l _ hC) lk_X1_45 hC.n0 hC.o rfl rfl (Nat.le_of_ble_eq_true rfl) ⟨Nat.le_of_ble_eq_true rfl, Nat.le_of_ble_eq_true rfl⟩ rfl rfl ⟨Nat.zero_le _, Nat.zero_le _⟩ dX1_knots_28 (fun H locs hP hS => ?_)
        refine lv_iadd hx hb dX1_knots_31 ?_
        refine z_topi (y := sumN (allK st) (kz + 1)) (by rw [sumN_congr (m := 6) h1]; rfl) ?_
        refine lv_istore_n (lv' := [(1, .int (sumN (allK st) (kz + 1))), (5, .ref (ad (n + 2 + 4 * kz))), (0, .ref (ad n)), (2, .ref (ad (n + 1))), (3, .int 7), (4, .int (nI kz))]) hx hb dX1_knots_32 rfl hl (by decide) rfl (fun ls hl => ?_)
        refine lv_iinc (v := nI (kz + 1)) (lv' := [(4, .int (nI (kz + 1))), (1, .int (sumN (allK st) (kz + 1))), (5, .ref (ad (n + 2 + 4 * kz))), (0, .ref (ad n)), (2, .ref (ad (n + 1))), (3, .int 7)]) hx hb dX1_knots_33 hl (k := 5) rfl (z_inc _) (by decide) rfl (fun ls hl => ?_)
        refine lv_goto (tgt := 13) hx hb dX1_knots_36 (by decide) ?_
        exact ih_13 (kz + 1) hk2 (by omega) _ _ _ hP hS  (lv_sub hl [3, 1, 4, 5, 0] rfl)
  exact lp_13 _ 0 (Nat.zero_le _) (Nat.lt_succ_self _) _ _ _ hP hS  (lv_sub hl [4, 3, 2, 1, 0] rfl)
set_option maxHeartbeats 4000000 in
set_option maxRecDepth 100000 in
theorem m_X1_loops (l : Launch) {D : va_G} {cy : Nat → ClassId} {K : Nat} {ad : Nat → Nat} {g : Nat → va_E} (sz : Nat) {n : Nat} {st : Nat → Int32} (hH : isH cy K ad g n st) : Met l yX1_loops (zs yX1_loops cX1_loops 6 (some .int)) ({ frames := 2, cells := 0, slots := 0, locals := 43 } : Room) (va_Pc [.ref (ad n)] (zIn D cy K ad g sz)) (va_Qi (fun r g1 => g1 = g ∧ r = sumN (allL st) 7) (zOut D cy K ad sz) (zA K ad sz)) 0 0 (zA K ad sz) := by
  refine z_met (by decide) (Nat.le_of_ble_eq_true rfl) (fun p e s m below meth c ls hsz hl C0 hr hnm hP hS => ?_)
  subst hsz
  have hl : lv_has ls 6 [(0, .ref (ad n))] := hl
  have hx := C0.1; have hb := C0.2.1; have hown := C0.2.2.2.1; have hts := C0.2.2.2.2.1
  obtain ⟨rw, hG, hrw, hCs⟩ := id hH
  refine lv_iconst (v := 0) hx hb dX1_loops_0 (by decide) ?_
  refine lv_istore_n (lv' := [(1, .int 0), (0, .ref (ad n))]) hx hb dX1_loops_1 rfl hl (by decide) rfl (fun ls hl => ?_)
  refine lv_aload_n hx hb dX1_loops_2 rfl (lv_at hl 1 rfl) ?_
  refine z_get C0 hP hG.n0 hG.o fd_X1_11 rfl dX1_loops_3 ?_
  refine lv_astore_n (lv' := [(2, .ref (ad (n + 1))), (1, .int 0), (0, .ref (ad n))]) hx hb dX1_loops_6 rfl hl (by decide) rfl (fun ls hl => ?_)
  refine lv_aload_n hx hb dX1_loops_7 rfl (lv_at hl 0 rfl) ?_
  refine z_alen (v := 7) C0 hP hG.n1 hG.a_rw rfl rfl dX1_loops_8 ?_
  refine lv_istore_n (lv' := [(3, .int 7), (2, .ref (ad (n + 1))), (1, .int 0), (0, .ref (ad n))]) hx hb dX1_loops_9 rfl hl (by decide) rfl (fun ls hl => ?_)
  refine lv_iconst (v := 0) hx hb dX1_loops_10 (by decide) ?_
  refine lv_istore (lv' := [(4, .int 0), (3, .int 7), (2, .ref (ad (n + 1))), (1, .int 0), (0, .ref (ad n))]) hx hb dX1_loops_11 hl (by decide) rfl (fun ls hl => ?_)
  have lp_13 : ∀ (N : Nat) (kz : Nat) (hk : kz ≤ 7), 7 - kz < N → ∀ (H : Heap) (locs : List Loc) (ls : Array Slot), zP D K ad g (zA K ad s.heap.size) H → va_S (zA K ad s.heap.size) s.heap H locs → lv_has ls 6 [(0, .ref (ad n)), (1, .int (sumN (allL st) kz)), (2, .ref (ad (n + 1))), (3, .int 7), (4, .int (nI kz))] → W p l e ({ frames := 2, cells := 0, slots := 0, locals := 43 } : Room) s m [.ref (ad n)].toArray below meth c H locs 0 0 (MQ below (va_Qi (fun r g1 => g1 = g ∧ r = sumN (allL st) 7) (zOut D cy K ad s.heap.size) (zA K ad s.heap.size)) [.ref (ad n)].toArray s 0 0 (zA K ad s.heap.size)) (F0 m 13 ls []) := by
    intro N
    induction N with
    | zero => intro kz hk hN; exact absurd hN (Nat.not_lt_zero _)
    | succ N ih_13 =>
      intro kz hk hN H locs ls hP hS  hl
      refine lv_iload hx hb dX1_loops_13 (lv_at hl 4 rfl) ?_
      refine lv_iload_n hx hb dX1_loops_15 rfl (lv_at hl 3 rfl) ?_
      refine lv_icmp_ge (tgt := 39) hx hb dX1_loops_16 (by decide) (fun c_16 => ?_) (fun c_16 => ?_)
      · have hk2 : kz = 7 := by have := z_ge_t (b := 7) c_16 (by omega) (by omega); omega
        subst hk2
        refine lv_iload_n hx hb dX1_loops_39 rfl (lv_at hl 1 rfl) ?_
        exact z_iret C0 hP hS hr (⟨rfl, rfl⟩) dX1_loops_40
      · have hk2 : kz < 7 := z_ge_f (b := 7) c_16 (by omega) (by omega)
        refine lv_aload_n hx hb dX1_loops_19 rfl (lv_at hl 2 rfl) ?_
        refine lv_iload hx hb dX1_loops_20 (lv_at hl 4 rfl) ?_
        refine z_aald C0 hP hG.n1 hG.a_rw rfl (zIx_nI (by omega) (by decide)) (congrArg va_rf (hrw kz hk2)) dX1_loops_22 ?_
        refine lv_astore (lv' := [(5, .ref (ad (n + 2 + 4 * kz))), (0, .ref (ad n)), (1, .int (sumN (allL st) kz)), (2, .ref (ad (n + 1))), (3, .int 7), (4, .int (nI kz))]) hx hb dX1_loops_23 hl (by decide) rfl (fun ls hl => ?_)
        refine lv_iload_n hx hb dX1_loops_25 rfl (lv_at hl 2 rfl) ?_
        refine lv_aload hx hb dX1_loops_26 (lv_at hl 0 rfl) ?_
        obtain ⟨kn, lo, pa, hC, h1, h2, h3⟩ := hCs kz hk2
        refine z_Vi_eq (As := []) (rest := [.int (sumN (allL st) kz)]) C0 hP hS hl.1 (m_X0_allLoops l _ hC) lk_X1_49 hC.n0 hC.o rfl rfl (Nat.le_of_ble_eq_true rfl) ⟨Nat.le_of_ble_eq_true rfl, Nat.le_of_ble_eq_true rfl⟩ rfl rfl ⟨Nat.zero_le _, Nat.zero_le _⟩ dX1_loops_28 (fun H locs hP hS => ?_)
        refine lv_iadd hx hb dX1_loops_31 ?_
        refine z_topi (y := sumN (allL st) (kz + 1)) (by rw [sumN_congr (m := 6) h2]; rfl) ?_
        refine lv_istore_n (lv' := [(1, .int (sumN (allL st) (kz + 1))), (5, .ref (ad (n + 2 + 4 * kz))), (0, .ref (ad n)), (2, .ref (ad (n + 1))), (3, .int 7), (4, .int (nI kz))]) hx hb dX1_loops_32 rfl hl (by decide) rfl (fun ls hl => ?_)
        refine lv_iinc (v := nI (kz + 1)) (lv' := [(4, .int (nI (kz + 1))), (1, .int (sumN (allL st) (kz + 1))), (5, .ref (ad (n + 2 + 4 * kz))), (0, .ref (ad n)), (2, .ref (ad (n + 1))), (3, .int 7)]) hx hb dX1_loops_33 hl (k := 5) rfl (z_inc _) (by decide) rfl (fun ls hl => ?_)
        refine lv_goto (tgt := 13) hx hb dX1_loops_36 (by decide) ?_
        exact ih_13 (kz + 1) hk2 (by omega) _ _ _ hP hS  (lv_sub hl [3, 1, 4, 5, 0] rfl)
  exact lp_13 _ 0 (Nat.zero_le _) (Nat.lt_succ_self _) _ _ _ hP hS  (lv_sub hl [4, 3, 2, 1, 0] rfl)
set_option maxHeartbeats 4000000 in
set_option maxRecDepth 100000 in
theorem m_X1_ties (l : Launch) {D : va_G} {cy : Nat → ClassId} {K : Nat} {ad : Nat → Nat} {g : Nat → va_E} (sz : Nat) {n : Nat} {st : Nat → Int32} (hH : isH cy K ad g n st) : Met l yX1_ties (zs yX1_ties cX1_ties 1 (some .int)) ({ frames := 3, cells := 0, slots := 0, locals := 68 } : Room) (va_Pc [.ref (ad n)] (zIn D cy K ad g sz)) (va_Qi (fun r g1 => g1 = g ∧ r = sumN (allK st) 7 + sumN (allL st) 7) (zOut D cy K ad sz) (zA K ad sz)) 0 0 (zA K ad sz) := by
  refine z_met (by decide) (Nat.le_of_ble_eq_true rfl) (fun p e s m below meth c ls hsz hl C0 hr hnm hP hS => ?_)
  subst hsz
  have hl : lv_has ls 1 [(0, .ref (ad n))] := hl
  have hx := C0.1; have hb := C0.2.1; have hown := C0.2.2.2.1; have hts := C0.2.2.2.2.1
  refine lv_aload_n hx hb dX1_ties_0 rfl (lv_at hl 0 rfl) ?_
  obtain ⟨fs_1, hfs_1⟩ := hH.rc
  refine z_Vi_eq (As := []) (rest := []) C0 hP hS hl.1 (m_X1_knots l _ hH) lk_X1_94 hH.n0 hfs_1 rfl rfl (Nat.le_of_ble_eq_true rfl) ⟨Nat.le_of_ble_eq_true rfl, Nat.le_of_ble_eq_true rfl⟩ rfl rfl ⟨Nat.zero_le _, Nat.zero_le _⟩ dX1_ties_1 (fun H locs hP hS => ?_)
  refine lv_aload_n hx hb dX1_ties_4 rfl (lv_at hl 0 rfl) ?_
  obtain ⟨fs_5, hfs_5⟩ := hH.rc
  refine z_Vi_eq (As := []) (rest := [.int (sumN (allK st) 7)]) C0 hP hS hl.1 (m_X1_loops l _ hH) lk_X1_96 hH.n0 hfs_5 rfl rfl (Nat.le_of_ble_eq_true rfl) ⟨Nat.le_of_ble_eq_true rfl, Nat.le_of_ble_eq_true rfl⟩ rfl rfl ⟨Nat.zero_le _, Nat.zero_le _⟩ dX1_ties_5 (fun H locs hP hS => ?_)
  refine lv_iadd hx hb dX1_ties_8 ?_
  exact z_iret C0 hP hS hr (⟨rfl, rfl⟩) dX1_ties_9
set_option maxHeartbeats 4000000 in
set_option maxRecDepth 100000 in
theorem m_X1_lacking (l : Launch) {D : va_G} {cy : Nat → ClassId} {K : Nat} {ad : Nat → Nat} {g : Nat → va_E} (sz : Nat) {n : Nat} {st : Nat → Int32} (hH : isH cy K ad g n st) (hpc : pcOK st) : Met l yX1_lacking (zs yX1_lacking cX1_lacking 6 (some .int)) ({ frames := 3, cells := 0, slots := 0, locals := 63 } : Room) (va_Pc [.ref (ad n)] (zIn D cy K ad g sz)) (va_Qi (fun r g1 => g1 = g ∧ r = sumN (lackN st) 7) (zOut D cy K ad sz) (zA K ad sz)) 0 0 (zA K ad sz) := by
  refine z_met (by decide) (Nat.le_of_ble_eq_true rfl) (fun p e s m below meth c ls hsz hl C0 hr hnm hP hS => ?_)
  subst hsz
  have hl : lv_has ls 6 [(0, .ref (ad n))] := hl
  have hx := C0.1; have hb := C0.2.1; have hown := C0.2.2.2.1; have hts := C0.2.2.2.2.1
  obtain ⟨rw, hG, hrw, hCs⟩ := id hH
  refine lv_iconst (v := 0) hx hb dX1_lacking_0 (by decide) ?_
  refine lv_istore_n (lv' := [(1, .int 0), (0, .ref (ad n))]) hx hb dX1_lacking_1 rfl hl (by decide) rfl (fun ls hl => ?_)
  refine lv_aload_n hx hb dX1_lacking_2 rfl (lv_at hl 1 rfl) ?_
  refine z_get C0 hP hG.n0 hG.o fd_X1_11 rfl dX1_lacking_3 ?_
  refine lv_astore_n (lv' := [(2, .ref (ad (n + 1))), (1, .int 0), (0, .ref (ad n))]) hx hb dX1_lacking_6 rfl hl (by decide) rfl (fun ls hl => ?_)
  refine lv_aload_n hx hb dX1_lacking_7 rfl (lv_at hl 0 rfl) ?_
  refine z_alen (v := 7) C0 hP hG.n1 hG.a_rw rfl rfl dX1_lacking_8 ?_
  refine lv_istore_n (lv' := [(3, .int 7), (2, .ref (ad (n + 1))), (1, .int 0), (0, .ref (ad n))]) hx hb dX1_lacking_9 rfl hl (by decide) rfl (fun ls hl => ?_)
  refine lv_iconst (v := 0) hx hb dX1_lacking_10 (by decide) ?_
  refine lv_istore (lv' := [(4, .int 0), (3, .int 7), (2, .ref (ad (n + 1))), (1, .int 0), (0, .ref (ad n))]) hx hb dX1_lacking_11 hl (by decide) rfl (fun ls hl => ?_)
  have lp_13 : ∀ (N : Nat) (kz : Nat) (hk : kz ≤ 7), 7 - kz < N → ∀ (H : Heap) (locs : List Loc) (ls : Array Slot), zP D K ad g (zA K ad s.heap.size) H → va_S (zA K ad s.heap.size) s.heap H locs → lv_has ls 6 [(0, .ref (ad n)), (1, .int (sumN (lackN st) kz)), (2, .ref (ad (n + 1))), (3, .int 7), (4, .int (nI kz))] → W p l e ({ frames := 3, cells := 0, slots := 0, locals := 63 } : Room) s m [.ref (ad n)].toArray below meth c H locs 0 0 (MQ below (va_Qi (fun r g1 => g1 = g ∧ r = sumN (lackN st) 7) (zOut D cy K ad s.heap.size) (zA K ad s.heap.size)) [.ref (ad n)].toArray s 0 0 (zA K ad s.heap.size)) (F0 m 13 ls []) := by
    intro N
    induction N with
    | zero => intro kz hk hN; exact absurd hN (Nat.not_lt_zero _)
    | succ N ih_13 =>
      intro kz hk hN H locs ls hP hS  hl
      refine lv_iload hx hb dX1_lacking_13 (lv_at hl 4 rfl) ?_
      refine lv_iload_n hx hb dX1_lacking_15 rfl (lv_at hl 3 rfl) ?_
      refine lv_icmp_ge (tgt := 42) hx hb dX1_lacking_16 (by decide) (fun c_16 => ?_) (fun c_16 => ?_)
      · have hk2 : kz = 7 := by have := z_ge_t (b := 7) c_16 (by omega) (by omega); omega
        subst hk2
        refine lv_iload_n hx hb dX1_lacking_42 rfl (lv_at hl 1 rfl) ?_
        exact z_iret C0 hP hS hr (⟨rfl, rfl⟩) dX1_lacking_43
      · have hk2 : kz < 7 := z_ge_f (b := 7) c_16 (by omega) (by omega)
        refine lv_aload_n hx hb dX1_lacking_19 rfl (lv_at hl 2 rfl) ?_
        refine lv_iload hx hb dX1_lacking_20 (lv_at hl 4 rfl) ?_
        refine z_aald C0 hP hG.n1 hG.a_rw rfl (zIx_nI (by omega) (by decide)) (congrArg va_rf (hrw kz hk2)) dX1_lacking_22 ?_
        refine lv_astore (lv' := [(5, .ref (ad (n + 2 + 4 * kz))), (0, .ref (ad n)), (1, .int (sumN (lackN st) kz)), (2, .ref (ad (n + 1))), (3, .int 7), (4, .int (nI kz))]) hx hb dX1_lacking_23 hl (by decide) rfl (fun ls hl => ?_)
        refine lv_aload hx hb dX1_lacking_25 (lv_at hl 0 rfl) ?_
        obtain ⟨kn, lo, pa, hC, h1, h2, h3⟩ := hCs kz hk2
        have e1 : (fun j => st (6 + 31 * kz + j)) 1 = nI (cm st kz) := (hpc kz hk2).1
        rw [e1] at hC
        refine z_Vi_eq (As := []) (rest := []) C0 hP hS hl.1 (m_X0_lack l _ hC (hpc kz hk2).2) lk_X1_67 hC.n0 hC.o rfl rfl (Nat.le_of_ble_eq_true rfl) ⟨Nat.le_of_ble_eq_true rfl, Nat.le_of_ble_eq_true rfl⟩ rfl rfl ⟨Nat.zero_le _, Nat.zero_le _⟩ dX1_lacking_27 (fun H locs hP hS => ?_)
        refine z_topi (y := cLack st kz) (by unfold cLack cParts cTold; rw [sumN_congr (m := cm st kz) (fun k hk => h3 k (Nat.lt_of_lt_of_le hk (hpc kz hk2).2)), tld_congr h1 h2 6]; rfl) ?_
        refine lv_if_le (tgt := 36) hx hb dX1_lacking_30 (by decide) (fun c_30 => ?_) (fun c_30 => ?_)
        · have e2 : sumN (lackN st) kz = sumN (lackN st) (kz + 1) := by show _ = sumN (lackN st) kz + lackN st kz; rw [show lackN st kz = 0 from if_pos c_30]; exact (Int32.add_zero _).symm
          rw [e2] at hl
          refine lv_iinc (v := nI (kz + 1)) (lv' := [(4, .int (nI (kz + 1))), (5, .ref (ad (n + 2 + 4 * kz))), (0, .ref (ad n)), (1, .int (sumN (lackN st) (kz + 1))), (2, .ref (ad (n + 1))), (3, .int 7)]) hx hb dX1_lacking_36 hl (k := 5) rfl (z_inc _) (by decide) rfl (fun ls hl => ?_)
          refine lv_goto (tgt := 13) hx hb dX1_lacking_39 (by decide) ?_
          exact ih_13 (kz + 1) hk2 (by omega) _ _ _ hP hS  (lv_sub hl [2, 3, 4, 5, 0] rfl)
        · refine lv_iinc (v := sumN (lackN st) (kz + 1)) (lv' := [(1, .int (sumN (lackN st) (kz + 1))), (5, .ref (ad (n + 2 + 4 * kz))), (0, .ref (ad n)), (2, .ref (ad (n + 1))), (3, .int 7), (4, .int (nI kz))]) hx hb dX1_lacking_33 hl (k := 2) rfl (by show _ = sumN (lackN st) kz + lackN st kz; rw [show lackN st kz = 1 from if_neg c_30]; exact z_incx _) (by decide) rfl (fun ls hl => ?_)
          refine lv_iinc (v := nI (kz + 1)) (lv' := [(4, .int (nI (kz + 1))), (1, .int (sumN (lackN st) (kz + 1))), (5, .ref (ad (n + 2 + 4 * kz))), (0, .ref (ad n)), (2, .ref (ad (n + 1))), (3, .int 7)]) hx hb dX1_lacking_36 hl (k := 5) rfl (z_inc _) (by decide) rfl (fun ls hl => ?_)
          refine lv_goto (tgt := 13) hx hb dX1_lacking_39 (by decide) ?_
          exact ih_13 (kz + 1) hk2 (by omega) _ _ _ hP hS  (lv_sub hl [3, 1, 4, 5, 0] rfl)
  exact lp_13 _ 0 (Nat.zero_le _) (Nat.lt_succ_self _) _ _ _ hP hS  (lv_sub hl [4, 3, 2, 1, 0] rfl)
set_option maxHeartbeats 4000000 in
set_option maxRecDepth 100000 in
theorem m_X1_toldInHue (l : Launch) {D : va_G} {cy : Nat → ClassId} {K : Nat} {ad : Nat → Nat} {g : Nat → va_E} (sz : Nat) {n : Nat} {st : Nat → Int32} {hu : Int32} (hH : isH cy K ad g n st) : Met l yX1_toldInHue (zs yX1_toldInHue cX1_toldInHue 7 (some .int)) ({ frames := 2, cells := 0, slots := 0, locals := 43 } : Room) (va_Pc [.ref (ad n), .int hu] (zIn D cy K ad g sz)) (va_Qi (fun r g1 => g1 = g ∧ r = sumN (hueN st hu) 7) (zOut D cy K ad sz) (zA K ad sz)) 0 0 (zA K ad sz) := by
  refine z_met (by decide) (Nat.le_of_ble_eq_true rfl) (fun p e s m below meth c ls hsz hl C0 hr hnm hP hS => ?_)
  subst hsz
  have hl : lv_has ls 7 [(0, .ref (ad n)), (1, .int hu)] := hl
  have hx := C0.1; have hb := C0.2.1; have hown := C0.2.2.2.1; have hts := C0.2.2.2.2.1
  obtain ⟨rw, hG, hrw, hCs⟩ := id hH
  refine lv_iconst (v := 0) hx hb dX1_toldInHue_0 (by decide) ?_
  refine lv_istore_n (lv' := [(2, .int 0), (0, .ref (ad n)), (1, .int hu)]) hx hb dX1_toldInHue_1 rfl hl (by decide) rfl (fun ls hl => ?_)
  refine lv_aload_n hx hb dX1_toldInHue_2 rfl (lv_at hl 1 rfl) ?_
  refine z_get C0 hP hG.n0 hG.o fd_X1_11 rfl dX1_toldInHue_3 ?_
  refine lv_astore_n (lv' := [(3, .ref (ad (n + 1))), (2, .int 0), (0, .ref (ad n)), (1, .int hu)]) hx hb dX1_toldInHue_6 rfl hl (by decide) rfl (fun ls hl => ?_)
  refine lv_aload_n hx hb dX1_toldInHue_7 rfl (lv_at hl 0 rfl) ?_
  refine z_alen (v := 7) C0 hP hG.n1 hG.a_rw rfl rfl dX1_toldInHue_8 ?_
  refine lv_istore (lv' := [(4, .int 7), (3, .ref (ad (n + 1))), (2, .int 0), (0, .ref (ad n)), (1, .int hu)]) hx hb dX1_toldInHue_9 hl (by decide) rfl (fun ls hl => ?_)
  refine lv_iconst (v := 0) hx hb dX1_toldInHue_11 (by decide) ?_
  refine lv_istore (lv' := [(5, .int 0), (4, .int 7), (3, .ref (ad (n + 1))), (2, .int 0), (0, .ref (ad n)), (1, .int hu)]) hx hb dX1_toldInHue_12 hl (by decide) rfl (fun ls hl => ?_)
  have lp_14 : ∀ (N : Nat) (kz : Nat) (hk : kz ≤ 7), 7 - kz < N → ∀ (H : Heap) (locs : List Loc) (ls : Array Slot), zP D K ad g (zA K ad s.heap.size) H → va_S (zA K ad s.heap.size) s.heap H locs → lv_has ls 7 [(0, .ref (ad n)), (1, .int hu), (2, .int (sumN (hueN st hu) kz)), (3, .ref (ad (n + 1))), (4, .int 7), (5, .int (nI kz))] → W p l e ({ frames := 2, cells := 0, slots := 0, locals := 43 } : Room) s m [.ref (ad n), .int hu].toArray below meth c H locs 0 0 (MQ below (va_Qi (fun r g1 => g1 = g ∧ r = sumN (hueN st hu) 7) (zOut D cy K ad s.heap.size) (zA K ad s.heap.size)) [.ref (ad n), .int hu].toArray s 0 0 (zA K ad s.heap.size)) (F0 m 14 ls []) := by
    intro N
    induction N with
    | zero => intro kz hk hN; exact absurd hN (Nat.not_lt_zero _)
    | succ N ih_14 =>
      intro kz hk hN H locs ls hP hS  hl
      refine lv_iload hx hb dX1_toldInHue_14 (lv_at hl 5 rfl) ?_
      refine lv_iload hx hb dX1_toldInHue_16 (lv_at hl 4 rfl) ?_
      refine lv_icmp_ge (tgt := 50) hx hb dX1_toldInHue_18 (by decide) (fun c_18 => ?_) (fun c_18 => ?_)
      · have hk2 : kz = 7 := by have := z_ge_t (b := 7) c_18 (by omega) (by omega); omega
        subst hk2
        refine lv_iload_n hx hb dX1_toldInHue_50 rfl (lv_at hl 2 rfl) ?_
        exact z_iret C0 hP hS hr (⟨rfl, rfl⟩) dX1_toldInHue_51
      · have hk2 : kz < 7 := z_ge_f (b := 7) c_18 (by omega) (by omega)
        refine lv_aload_n hx hb dX1_toldInHue_21 rfl (lv_at hl 3 rfl) ?_
        refine lv_iload hx hb dX1_toldInHue_22 (lv_at hl 5 rfl) ?_
        refine z_aald C0 hP hG.n1 hG.a_rw rfl (zIx_nI (by omega) (by decide)) (congrArg va_rf (hrw kz hk2)) dX1_toldInHue_24 ?_
        refine lv_astore (lv' := [(6, .ref (ad (n + 2 + 4 * kz))), (0, .ref (ad n)), (1, .int hu), (2, .int (sumN (hueN st hu) kz)), (3, .ref (ad (n + 1))), (4, .int 7), (5, .int (nI kz))]) hx hb dX1_toldInHue_25 hl (by decide) rfl (fun ls hl => ?_)
        obtain ⟨kn, lo, pa, hC, h1, h2, h3⟩ := hCs kz hk2
        refine lv_aload hx hb dX1_toldInHue_27 (lv_at hl 0 rfl) ?_
        refine z_get C0 hP hC.n0 hC.o fd_X1_91 rfl dX1_toldInHue_29 ?_
        refine lv_iload_n hx hb dX1_toldInHue_32 rfl (lv_at hl 2 rfl) ?_
        refine lv_icmp_ne (tgt := 44) hx hb dX1_toldInHue_33 (by decide) (fun c_33 => ?_) (fun c_33 => ?_)
        · have e2 : sumN (hueN st hu) kz = sumN (hueN st hu) (kz + 1) := by show _ = sumN (hueN st hu) kz + hueN st hu kz; rw [show hueN st hu kz = 0 from if_neg c_33]; exact (Int32.add_zero _).symm
          rw [e2] at hl
          refine lv_iinc (v := nI (kz + 1)) (lv' := [(5, .int (nI (kz + 1))), (6, .ref (ad (n + 2 + 4 * kz))), (0, .ref (ad n)), (1, .int hu), (2, .int (sumN (hueN st hu) (kz + 1))), (3, .ref (ad (n + 1))), (4, .int 7)]) hx hb dX1_toldInHue_44 hl (k := 6) rfl (z_inc _) (by decide) rfl (fun ls hl => ?_)
          refine lv_goto (tgt := 14) hx hb dX1_toldInHue_47 (by decide) ?_
          exact ih_14 (kz + 1) hk2 (by omega) _ _ _ hP hS  (lv_sub hl [2, 3, 4, 5, 6, 0] rfl)
        · refine lv_iload_n hx hb dX1_toldInHue_36 rfl (lv_at hl 3 rfl) ?_
          refine lv_aload hx hb dX1_toldInHue_37 (lv_at hl 0 rfl) ?_
          refine z_Vi_eq (As := []) (rest := [.int (sumN (hueN st hu) kz)]) C0 hP hS hl.1 (m_X0_told l _ hC) lk_X1_60 hC.n0 hC.o rfl rfl (Nat.le_of_ble_eq_true rfl) ⟨Nat.le_of_ble_eq_true rfl, Nat.le_of_ble_eq_true rfl⟩ rfl rfl ⟨Nat.zero_le _, Nat.zero_le _⟩ dX1_toldInHue_39 (fun H locs hP hS => ?_)
          refine lv_iadd hx hb dX1_toldInHue_42 ?_
          refine z_topi (y := sumN (hueN st hu) (kz + 1)) (by show _ = sumN (hueN st hu) kz + hueN st hu kz; rw [show hueN st hu kz = cTold st kz from if_pos c_33, tld_congr h1 h2 6]; rfl) ?_
          refine lv_istore_n (lv' := [(2, .int (sumN (hueN st hu) (kz + 1))), (6, .ref (ad (n + 2 + 4 * kz))), (0, .ref (ad n)), (1, .int hu), (3, .ref (ad (n + 1))), (4, .int 7), (5, .int (nI kz))]) hx hb dX1_toldInHue_43 rfl hl (by decide) rfl (fun ls hl => ?_)
          refine lv_iinc (v := nI (kz + 1)) (lv' := [(5, .int (nI (kz + 1))), (2, .int (sumN (hueN st hu) (kz + 1))), (6, .ref (ad (n + 2 + 4 * kz))), (0, .ref (ad n)), (1, .int hu), (3, .ref (ad (n + 1))), (4, .int 7)]) hx hb dX1_toldInHue_44 hl (k := 6) rfl (z_inc _) (by decide) rfl (fun ls hl => ?_)
          refine lv_goto (tgt := 14) hx hb dX1_toldInHue_47 (by decide) ?_
          exact ih_14 (kz + 1) hk2 (by omega) _ _ _ hP hS  (lv_sub hl [3, 4, 1, 5, 6, 0] rfl)
  exact lp_14 _ 0 (Nat.zero_le _) (Nat.lt_succ_self _) _ _ _ hP hS  (lv_sub hl [4, 5, 3, 2, 1, 0] rfl)
set_option maxHeartbeats 4000000 in
set_option maxRecDepth 100000 in
theorem m_X1_fullestCord (l : Launch) {D : va_G} {cy : Nat → ClassId} {K : Nat} {ad : Nat → Nat} {g : Nat → va_E} (sz : Nat) {n : Nat} {st : Nat → Int32} (hH : isH cy K ad g n st) : Met l yX1_fullestCord (zs yX1_fullestCord cX1_fullestCord 3 (some .int)) ({ frames := 3, cells := 0, slots := 0, locals := 63 } : Room) (va_Pc [.ref (ad n)] (zIn D cy K ad g sz)) (va_Qi (fun r g1 => g1 = g ∧ r = nI (fulN st 6)) (zOut D cy K ad sz) (zA K ad sz)) 0 0 (zA K ad sz) := by
  refine z_met (by decide) (Nat.le_of_ble_eq_true rfl) (fun p e s m below meth c ls hsz hl C0 hr hnm hP hS => ?_)
  subst hsz
  have hl : lv_has ls 3 [(0, .ref (ad n))] := hl
  have hx := C0.1; have hb := C0.2.1; have hown := C0.2.2.2.1; have hts := C0.2.2.2.2.1
  obtain ⟨rw, hG, hrw, hCs⟩ := id hH
  refine lv_iconst (v := (nI 0)) hx hb dX1_fullestCord_0 (by decide) ?_
  refine lv_istore_n (lv' := [(1, .int (nI 0)), (0, .ref (ad n))]) hx hb dX1_fullestCord_1 rfl hl (by decide) rfl (fun ls hl => ?_)
  refine lv_iconst (v := (nI 1)) hx hb dX1_fullestCord_2 (by decide) ?_
  refine lv_istore_n (lv' := [(2, .int (nI 1)), (1, .int (nI 0)), (0, .ref (ad n))]) hx hb dX1_fullestCord_3 rfl hl (by decide) rfl (fun ls hl => ?_)
  have lp_4 : ∀ (N : Nat) (kz : Nat) (hk : kz ≤ 6), 6 - kz < N → ∀ (H : Heap) (locs : List Loc) (ls : Array Slot), zP D K ad g (zA K ad s.heap.size) H → va_S (zA K ad s.heap.size) s.heap H locs → lv_has ls 3 [(0, .ref (ad n)), (1, .int (nI (fulN st kz))), (2, .int (nI (kz + 1)))] → W p l e ({ frames := 3, cells := 0, slots := 0, locals := 63 } : Room) s m [.ref (ad n)].toArray below meth c H locs 0 0 (MQ below (va_Qi (fun r g1 => g1 = g ∧ r = nI (fulN st 6)) (zOut D cy K ad s.heap.size) (zA K ad s.heap.size)) [.ref (ad n)].toArray s 0 0 (zA K ad s.heap.size)) (F0 m 4 ls []) := by
    intro N
    induction N with
    | zero => intro kz hk hN; exact absurd hN (Nat.not_lt_zero _)
    | succ N ih_4 =>
      intro kz hk hN H locs ls hP hS  hl
      refine lv_iload_n hx hb dX1_fullestCord_4 rfl (lv_at hl 2 rfl) ?_
      refine lv_bipush (v := 7) hx hb dX1_fullestCord_5 (by decide) ?_
      refine lv_icmp_ge (tgt := 39) hx hb dX1_fullestCord_7 (by decide) (fun c_7 => ?_) (fun c_7 => ?_)
      · have hk2 : kz = 6 := by have := z_ge_t (b := 7) c_7 (by omega) (by omega); omega
        subst hk2
        refine lv_iload_n hx hb dX1_fullestCord_39 rfl (lv_at hl 1 rfl) ?_
        exact z_iret C0 hP hS hr (⟨rfl, rfl⟩) dX1_fullestCord_40
      · have hk2 : kz + 1 ≤ 6 := by have := z_ge_f (b := 7) c_7 (by omega) (by omega); omega
        have hfu := fulN_le st kz
        refine lv_aload_n hx hb dX1_fullestCord_10 rfl (lv_at hl 0 rfl) ?_
        refine z_get C0 hP hG.n0 hG.o fd_X1_11 rfl dX1_fullestCord_11 ?_
        refine lv_iload_n hx hb dX1_fullestCord_14 rfl (lv_at hl 2 rfl) ?_
        refine z_aald C0 hP hG.n1 hG.a_rw rfl (zIx_nI (by omega) (by decide)) (congrArg va_rf (hrw (kz + 1) (by omega))) dX1_fullestCord_15 ?_
        obtain ⟨kn, lo, pa, hC, h1, h2, h3⟩ := hCs (kz + 1) (by omega)
        refine z_Vi_eq (As := []) (rest := []) C0 hP hS hl.1 (m_X0_ties l _ hC) lk_X1_85 hC.n0 hC.o rfl rfl (Nat.le_of_ble_eq_true rfl) ⟨Nat.le_of_ble_eq_true rfl, Nat.le_of_ble_eq_true rfl⟩ rfl rfl ⟨Nat.zero_le _, Nat.zero_le _⟩ dX1_fullestCord_16 (fun H locs hP hS => ?_)
        refine z_topi (y := cTies st (kz + 1)) (by rw [sumN_congr (m := 6) h1, sumN_congr (m := 6) h2]; rfl) ?_
        refine lv_aload_n hx hb dX1_fullestCord_19 rfl (lv_at hl 0 rfl) ?_
        refine z_get C0 hP hG.n0 hG.o fd_X1_11 rfl dX1_fullestCord_20 ?_
        refine lv_iload_n hx hb dX1_fullestCord_23 rfl (lv_at hl 1 rfl) ?_
        refine z_aald C0 hP hG.n1 hG.a_rw rfl (zIx_nI (by omega) (by decide)) (congrArg va_rf (hrw (fulN st kz) (by omega))) dX1_fullestCord_24 ?_
        have hfu := fulN_le st kz
        obtain ⟨kn, lo, pa, hD, i1, i2, i3⟩ := hCs (fulN st kz) (by omega)
        refine z_Vi_eq (As := []) (rest := [.int (cTies st (kz + 1))]) C0 hP hS hl.1 (m_X0_ties l _ hD) lk_X1_85 hD.n0 hD.o rfl rfl (Nat.le_of_ble_eq_true rfl) ⟨Nat.le_of_ble_eq_true rfl, Nat.le_of_ble_eq_true rfl⟩ rfl rfl ⟨Nat.zero_le _, Nat.zero_le _⟩ dX1_fullestCord_25 (fun H locs hP hS => ?_)
        refine z_topi (y := cTies st (fulN st kz)) (by rw [sumN_congr (m := 6) i1, sumN_congr (m := 6) i2]; rfl) ?_
        refine lv_icmp_le (tgt := 33) hx hb dX1_fullestCord_28 (by decide) (fun c_28 => ?_) (fun c_28 => ?_)
        · have e2 : fulN st kz = fulN st (kz + 1) := (if_pos c_28).symm
          rw [e2] at hl
          refine lv_iinc (v := nI ((kz + 1) + 1)) (lv' := [(2, .int (nI ((kz + 1) + 1))), (0, .ref (ad n)), (1, .int (nI (fulN st (kz + 1))))]) hx hb dX1_fullestCord_33 hl (k := 2) rfl (z_inc _) (by decide) rfl (fun ls hl => ?_)
          refine lv_goto (tgt := 4) hx hb dX1_fullestCord_36 (by decide) ?_
          exact ih_4 (kz + 1) hk2 (by omega) _ _ _ hP hS  (lv_sub hl [1, 2, 0] rfl)
        · refine lv_iload_n hx hb dX1_fullestCord_31 rfl (lv_at hl 2 rfl) ?_
          refine z_topi (y := nI (fulN st (kz + 1))) (congrArg nI (if_neg c_28).symm) ?_
          refine lv_istore_n (lv' := [(1, .int (nI (fulN st (kz + 1)))), (0, .ref (ad n)), (2, .int (nI (kz + 1)))]) hx hb dX1_fullestCord_32 rfl hl (by decide) rfl (fun ls hl => ?_)
          refine lv_iinc (v := nI ((kz + 1) + 1)) (lv' := [(2, .int (nI ((kz + 1) + 1))), (1, .int (nI (fulN st (kz + 1)))), (0, .ref (ad n))]) hx hb dX1_fullestCord_33 hl (k := 2) rfl (z_inc _) (by decide) rfl (fun ls hl => ?_)
          refine lv_goto (tgt := 4) hx hb dX1_fullestCord_36 (by decide) ?_
          exact ih_4 (kz + 1) hk2 (by omega) _ _ _ hP hS  (lv_sub hl [2, 1, 0] rfl)
  exact lp_4 _ 0 (Nat.zero_le _) (Nat.lt_succ_self _) _ _ _ hP hS  (lv_sub hl [2, 1, 0] rfl)
set_option maxHeartbeats 4000000 in
set_option maxRecDepth 100000 in
theorem m_X1_tellEach (l : Launch) {D : va_G} {cy : Nat → ClassId} {K : Nat} {ad : Nat → Nat} {g : Nat → va_E} (sz : Nat) {n : Nat} {st : Nat → Int32} {tz : Nat} {tl : Nat → Int32} (hH : isH cy K ad g n st) (hB : isA cy K ad g tz 7 tl) (hd : tz < n ∨ n + 30 ≤ tz) : Met l yX1_tellEach (zs yX1_tellEach cX1_tellEach 3 none) ({ frames := 2, cells := 0, slots := 0, locals := 43 } : Room) (va_Pc [.ref (ad n), .ref (ad tz)] (zIn D cy K ad g sz)) (va_Qv (fun g1 => isA cy K ad g1 tz 7 (tellF st tl 7) ∧ zFr (zOne tz) g g1) (zOut D cy K ad sz) (zA K ad sz)) 0 0 (zA K ad sz) := by
  refine z_met (by decide) (Nat.le_of_ble_eq_true rfl) (fun p e s m below meth c ls hsz hl C0 hr hnm hP hS => ?_)
  subst hsz
  have hl : lv_has ls 3 [(0, .ref (ad n)), (1, .ref (ad tz))] := hl
  have hx := C0.1; have hb := C0.2.1; have hown := C0.2.2.2.1; have hts := C0.2.2.2.2.1
  have hFr : zFr (zOne tz) g g := zFr.rf
  refine lv_iconst (v := 0) hx hb dX1_tellEach_0 (by decide) ?_
  refine lv_istore_n (lv' := [(2, .int 0), (0, .ref (ad n)), (1, .ref (ad tz))]) hx hb dX1_tellEach_1 rfl hl (by decide) rfl (fun ls hl => ?_)
  have lp_2 : ∀ (N : Nat) (kz : Nat) (hk : kz ≤ 7), 7 - kz < N → ∀ (g_1 : Nat → va_E) (H : Heap) (locs : List Loc) (ls : Array Slot), zP D K ad g_1 (zA K ad s.heap.size) H → va_S (zA K ad s.heap.size) s.heap H locs → isH cy K ad g_1 n st → isA cy K ad g_1 tz 7 (tellF st tl kz) → zFr (zOne tz) g g_1 → lv_has ls 3 [(0, .ref (ad n)), (1, .ref (ad tz)), (2, .int (nI kz))] → W p l e ({ frames := 2, cells := 0, slots := 0, locals := 43 } : Room) s m [.ref (ad n), .ref (ad tz)].toArray below meth c H locs 0 0 (MQ below (va_Qv (fun g1 => isA cy K ad g1 tz 7 (tellF st tl 7) ∧ zFr (zOne tz) g g1) (zOut D cy K ad s.heap.size) (zA K ad s.heap.size)) [.ref (ad n), .ref (ad tz)].toArray s 0 0 (zA K ad s.heap.size)) (F0 m 2 ls []) := by
    intro N
    induction N with
    | zero => intro kz hk hN; exact absurd hN (Nat.not_lt_zero _)
    | succ N ih_2 =>
      intro kz hk hN g_1 H locs ls hP hS hH hB hFr hl
      refine lv_iload_n hx hb dX1_tellEach_2 rfl (lv_at hl 2 rfl) ?_
      refine lv_bipush (v := 7) hx hb dX1_tellEach_3 (by decide) ?_
      refine lv_icmp_ge (tgt := 32) hx hb dX1_tellEach_5 (by decide) (fun c_5 => ?_) (fun c_5 => ?_)
      · have hk2 : kz = 7 := by have := z_ge_t (b := 7) c_5 (by omega) (by omega); omega
        subst hk2
        exact z_vret C0 hP hS hr (⟨hB, hFr⟩) dX1_tellEach_32
      · have hk2 : kz < 7 := z_ge_f (b := 7) c_5 (by omega) (by omega)
        refine lv_iload_n hx hb dX1_tellEach_8 rfl (lv_at hl 2 rfl) ?_
        refine lv_aload_n hx hb dX1_tellEach_9 rfl (lv_at hl 1 rfl) ?_
        refine z_alen (v := (nI 7)) C0 hP hB.n0 hB.a_fn rfl rfl dX1_tellEach_10 ?_
        refine lv_icmp_ge (tgt := 32) hx hb dX1_tellEach_11 (by decide) (fun c_11 => absurd (z_ge_t (b := 7) c_11 (by omega) (by omega)) (by omega)) (fun c_11 => ?_)
        refine lv_aload_n hx hb dX1_tellEach_14 rfl (lv_at hl 1 rfl) ?_
        refine lv_iload_n hx hb dX1_tellEach_15 rfl (lv_at hl 2 rfl) ?_
        obtain ⟨rw, hG, hrw, hCs⟩ := id hH
        refine lv_aload_n hx hb dX1_tellEach_16 rfl (lv_at hl 0 rfl) ?_
        refine z_get C0 hP hG.n0 hG.o fd_X1_11 rfl dX1_tellEach_17 ?_
        refine lv_iload_n hx hb dX1_tellEach_20 rfl (lv_at hl 2 rfl) ?_
        refine z_aald C0 hP hG.n1 hG.a_rw rfl (zIx_nI (by omega) (by decide)) (congrArg va_rf (hrw kz hk2)) dX1_tellEach_21 ?_
        obtain ⟨kn, lo, pa, hC, h1, h2, h3⟩ := hCs kz hk2
        refine z_Vi_eq (As := []) (rest := [.int (nI kz), .ref (ad tz)]) C0 hP hS hl.1 (m_X0_told l _ hC) lk_X1_60 hC.n0 hC.o rfl rfl (Nat.le_of_ble_eq_true rfl) ⟨Nat.le_of_ble_eq_true rfl, Nat.le_of_ble_eq_true rfl⟩ rfl rfl ⟨Nat.zero_le _, Nat.zero_le _⟩ dX1_tellEach_22 (fun H locs hP hS => ?_)
        refine z_topi (y := cTold st kz) (tld_congr h1 h2 6) ?_
        refine zp_A_fn C0 hP hS hB hFr (by first | rfl | (dsimp only [zOne, zRg]; omega) | (dsimp only; omega) | omega) (zIx_nI (by omega) (by decide)) dX1_tellEach_25 (fun g_2 H locs hP hS hB hFr hF1 => ?_)
        have hH := hH.kept hF1 (by intro z9 h8 h9; first | (dsimp only [zOne, zRg]; omega) | (dsimp only; omega) | omega)
        rw [tellF_up] at hB
        refine lv_iinc (v := nI (kz + 1)) (lv' := [(2, .int (nI (kz + 1))), (0, .ref (ad n)), (1, .ref (ad tz))]) hx hb dX1_tellEach_26 hl (k := 2) rfl (z_inc _) (by decide) rfl (fun ls hl => ?_)
        refine lv_goto (tgt := 2) hx hb dX1_tellEach_29 (by decide) ?_
        exact ih_2 (kz + 1) hk2 (by omega) _ _ _ _ hP hS hH hB hFr (lv_sub hl [1, 2, 0] rfl)
  have hB : isA cy K ad g tz 7 (tellF st tl 0) := by rw [tellF_0]; exact hB
  exact lp_2 _ 0 (Nat.zero_le _) (Nat.lt_succ_self _) _ _ _ _ hP hS hH hB hFr (lv_sub hl [1, 2, 0] rfl)
set_option maxHeartbeats 4000000 in
set_option maxRecDepth 100000 in
theorem m_X1_tieCord (l : Launch) {D : va_G} {cy : Nat → ClassId} {K : Nat} {ad : Nat → Nat} {g : Nat → va_E} (sz : Nat) {n : Nat} {st : Nat → Int32} {iz jz : Nat} (hH : isH cy K ad g n st) (hi : iz < 7) (hj : jz < 7) (hpc : pcOK st) : Met l yX1_tieCord (zs yX1_tieCord cX1_tieCord 4 (some .int)) ({ frames := 5, cells := 0, slots := 0, locals := 118 } : Room) (va_Pc [.ref (ad n), .ref (ad (n + 2 + 4 * iz)), .ref (ad (n + 2 + 4 * jz))] (zIn D cy K ad g sz)) (va_Qi (fun r g1 => r = addR st iz jz ∧ isH cy K ad g1 n (addS st iz jz) ∧ zFr (zRg n (n + 30)) g g1) (zOut D cy K ad sz) (zA K ad sz)) 0 0 (zA K ad sz) := by
  refine z_met (by decide) (Nat.le_of_ble_eq_true rfl) (fun p e s m below meth c ls hsz hl C0 hr hnm hP hS => ?_)
  subst hsz
  have hl : lv_has ls 4 [(0, .ref (ad n)), (1, .ref (ad (n + 2 + 4 * iz))), (2, .ref (ad (n + 2 + 4 * jz)))] := hl
  have hx := C0.1; have hb := C0.2.1; have hown := C0.2.2.2.1; have hts := C0.2.2.2.2.1
  have hFr : zFr (zRg n (n + 30)) g g := zFr.rf
  obtain ⟨rw, hG, hrw, hCs⟩ := id hH
  obtain ⟨kn, lo, pa, hC, h1, h2, h3⟩ := hCs iz hi
  refine lv_aload_n hx hb dX1_tieCord_0 rfl (lv_at hl 1 rfl) ?_
  refine z_Vi_eq (As := []) (rest := []) C0 hP hS hl.1 (m_X0_told l _ hC) lk_X1_60 hC.n0 hC.o rfl rfl (Nat.le_of_ble_eq_true rfl) ⟨Nat.le_of_ble_eq_true rfl, Nat.le_of_ble_eq_true rfl⟩ rfl rfl ⟨Nat.zero_le _, Nat.zero_le _⟩ dX1_tieCord_1 (fun H locs hP hS => ?_)
  refine z_topi (y := cTold st iz) (tld_congr h1 h2 6) ?_
  refine lv_istore_n (lv' := [(3, .int (cTold st iz)), (0, .ref (ad n)), (1, .ref (ad (n + 2 + 4 * iz))), (2, .ref (ad (n + 2 + 4 * jz)))]) hx hb dX1_tieCord_4 rfl hl (by decide) rfl (fun ls hl => ?_)
  refine lv_iload_n hx hb dX1_tieCord_5 rfl (lv_at hl 0 rfl) ?_
  refine lv_if_ne (tgt := 13) hx hb dX1_tieCord_6 (by decide) (fun c_6 => ?_) (fun c_6 => ?_)
  · refine lv_aload_n hx hb dX1_tieCord_13 rfl (lv_at hl 1 rfl) ?_
    refine lv_aload_n hx hb dX1_tieCord_14 rfl (lv_at hl 3 rfl) ?_
    refine lv_iload_n hx hb dX1_tieCord_15 rfl (lv_at hl 0 rfl) ?_
    obtain ⟨fs_16, hfs_16⟩ := hH.rc
    refine z_Vi_mo (As := [.ref (ad (n + 2 + 4 * jz)), .int (cTold st iz)]) (rest := []) C0 hP hS hl.1 (mf_tiePart l _ hH hj hpc) lk_X1_63 hH.n0 hfs_16 rfl rfl (Nat.le_of_ble_eq_true rfl) ⟨Nat.le_of_ble_eq_true rfl, Nat.le_of_ble_eq_true rfl⟩ rfl rfl ⟨Nat.zero_le _, Nat.zero_le _⟩ dX1_tieCord_16 (fun r_16 g_1 H locs hP hS hp => ?_)
    obtain ⟨hr_16, hH, hF1⟩ := hp
    subst hr_16
    have hFr := hFr.tr (hF1.mono (by intro x9 hx9; first | (dsimp only [zOne, zRg] at hx9 ⊢; omega) | (dsimp only at hx9 ⊢; omega) | omega))
    exact z_iret C0 hP hS hr (⟨(if_neg c_6).symm, by unfold addS; rw [if_neg c_6]; exact hH, hFr⟩) dX1_tieCord_19
  · refine lv_iconst (v := 0) hx hb dX1_tieCord_9 (by decide) ?_
    refine lv_goto (tgt := 19) hx hb dX1_tieCord_10 (by decide) ?_
    exact z_iret C0 hP hS hr (⟨(if_pos c_6).symm, by unfold addS; rw [if_pos c_6]; exact hH, hFr⟩) dX1_tieCord_19
