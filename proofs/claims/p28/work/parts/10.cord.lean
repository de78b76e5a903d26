set_option maxHeartbeats 4000000 in
set_option maxRecDepth 100000 in
theorem m_X0_open (l : Launch) {D : va_G} {cy : Nat → ClassId} {K : Nat} {ad : Nat → Nat} {g : Nat → va_E} (sz : Nat) {n : Nat} {kn lo pa : Nat → Int32} {pc hu sl : Int32} {j : Nat} (hC : isC cy K ad g n kn lo pa pc hu sl) (hj : j < 6) : Met l yX0_open (zs yX0_open cX0_open 2 (some .int)) ({ frames := 0, cells := 0, slots := 0, locals := 0 } : Room) (va_Pc [.ref (ad n), .int (nI j)] (zIn D cy K ad g sz)) (va_Qi (fun r g1 => g1 = g ∧ r = opn kn lo j) (zOut D cy K ad sz) (zA K ad sz)) 0 0 (zA K ad sz) := by
  refine z_met (by decide) (Nat.le_of_ble_eq_true rfl) (fun p e s m below meth c ls hsz hl C0 hr hnm hP hS => ?_)
  subst hsz
  have hl : lv_has ls 2 [(0, .ref (ad n)), (1, .int (nI j))] := hl
  have hx := C0.1; have hb := C0.2.1; have hown := C0.2.2.2.1; have hts := C0.2.2.2.2.1
  refine lv_aload_n hx hb dX0_open_0 rfl (lv_at hl 0 rfl) ?_
  refine z_get C0 hP hC.n0 hC.o fd_X0_9 rfl dX0_open_1 ?_
  refine lv_iload_n hx hb dX0_open_4 rfl (lv_at hl 1 rfl) ?_
  refine z_iald C0 hP hC.n1 hC.a_kn (zIx_nI (by omega) (by decide)) dX0_open_5 ?_
  refine lv_bipush (v := 10) hx hb dX0_open_6 (by decide) ?_
  refine lv_aload_n hx hb dX0_open_8 rfl (lv_at hl 0 rfl) ?_
  refine z_get C0 hP hC.n0 hC.o fd_X0_15 rfl dX0_open_9 ?_
  refine lv_iload_n hx hb dX0_open_12 rfl (lv_at hl 1 rfl) ?_
  refine z_iald C0 hP hC.n2 hC.a_lo (zIx_nI (by omega) (by decide)) dX0_open_13 ?_
  refine lv_imul hx hb dX0_open_14 ?_
  refine lv_isub hx hb dX0_open_15 ?_
  exact z_iret C0 hP hS hr (⟨rfl, rfl⟩) dX0_open_16
set_option maxHeartbeats 4000000 in
set_option maxRecDepth 100000 in
theorem m_X0_tiesAt (l : Launch) {D : va_G} {cy : Nat → ClassId} {K : Nat} {ad : Nat → Nat} {g : Nat → va_E} (sz : Nat) {n : Nat} {kn lo pa : Nat → Int32} {pc hu sl : Int32} {j : Nat} (hC : isC cy K ad g n kn lo pa pc hu sl) (hj : j < 6) : Met l yX0_tiesAt (zs yX0_tiesAt cX0_tiesAt 2 (some .int)) ({ frames := 0, cells := 0, slots := 0, locals := 0 } : Room) (va_Pc [.ref (ad n), .int (nI j)] (zIn D cy K ad g sz)) (va_Qi (fun r g1 => g1 = g ∧ r = kn j + lo j) (zOut D cy K ad sz) (zA K ad sz)) 0 0 (zA K ad sz) := by
  refine z_met (by decide) (Nat.le_of_ble_eq_true rfl) (fun p e s m below meth c ls hsz hl C0 hr hnm hP hS => ?_)
  subst hsz
  have hl : lv_has ls 2 [(0, .ref (ad n)), (1, .int (nI j))] := hl
  have hx := C0.1; have hb := C0.2.1; have hown := C0.2.2.2.1; have hts := C0.2.2.2.2.1
  refine lv_aload_n hx hb dX0_tiesAt_0 rfl (lv_at hl 0 rfl) ?_
  refine z_get C0 hP hC.n0 hC.o fd_X0_9 rfl dX0_tiesAt_1 ?_
  refine lv_iload_n hx hb dX0_tiesAt_4 rfl (lv_at hl 1 rfl) ?_
  refine z_iald C0 hP hC.n1 hC.a_kn (zIx_nI (by omega) (by decide)) dX0_tiesAt_5 ?_
  refine lv_aload_n hx hb dX0_tiesAt_6 rfl (lv_at hl 0 rfl) ?_
  refine z_get C0 hP hC.n0 hC.o fd_X0_15 rfl dX0_tiesAt_7 ?_
  refine lv_iload_n hx hb dX0_tiesAt_10 rfl (lv_at hl 1 rfl) ?_
  refine z_iald C0 hP hC.n2 hC.a_lo (zIx_nI (by omega) (by decide)) dX0_tiesAt_11 ?_
  refine lv_iadd hx hb dX0_tiesAt_12 ?_
  exact z_iret C0 hP hS hr (⟨rfl, rfl⟩) dX0_tiesAt_13
set_option maxHeartbeats 4000000 in
set_option maxRecDepth 100000 in
theorem m_X0_told (l : Launch) {D : va_G} {cy : Nat → ClassId} {K : Nat} {ad : Nat → Nat} {g : Nat → va_E} (sz : Nat) {n : Nat} {kn lo pa : Nat → Int32} {pc hu sl : Int32} (hC : isC cy K ad g n kn lo pa pc hu sl) : Met l yX0_told (zs yX0_told cX0_told 3 (some .int)) ({ frames := 1, cells := 0, slots := 0, locals := 21 } : Room) (va_Pc [.ref (ad n)] (zIn D cy K ad g sz)) (va_Qi (fun r g1 => g1 = g ∧ r = tld kn lo 6) (zOut D cy K ad sz) (zA K ad sz)) 0 0 (zA K ad sz) := by
  refine z_met (by decide) (Nat.le_of_ble_eq_true rfl) (fun p e s m below meth c ls hsz hl C0 hr hnm hP hS => ?_)
  subst hsz
  have hl : lv_has ls 3 [(0, .ref (ad n))] := hl
  have hx := C0.1; have hb := C0.2.1; have hown := C0.2.2.2.1; have hts := C0.2.2.2.2.1
  refine lv_iconst (v := 0) hx hb dX0_told_0 (by decide) ?_
  refine lv_istore_n (lv' := [(1, .int 0), (0, .ref (ad n))]) hx hb dX0_told_1 rfl hl (by decide) rfl (fun ls hl => ?_)
  refine lv_iconst (v := 5) hx hb dX0_told_2 (by decide) ?_
  refine z_topi (y := nI 6 - 1) (by decide) ?_
  refine lv_istore_n (lv' := [(2, .int (nI 6 - 1)), (1, .int 0), (0, .ref (ad n))]) hx hb dX0_told_3 rfl hl (by decide) rfl (fun ls hl => ?_)
  have lp_4 : ∀ (N : Nat) (k : Nat) (hk : k ≤ 6), 6 - k < N → ∀ (H : Heap) (locs : List Loc) (ls : Array Slot), zP D K ad g (zA K ad s.heap.size) H → va_S (zA K ad s.heap.size) s.heap H locs → lv_has ls 3 [(0, .ref (ad n)), (1, .int (tld kn lo k)), (2, .int (nI (6 - k) - 1))] → W p l e ({ frames := 1, cells := 0, slots := 0, locals := 21 } : Room) s m [.ref (ad n)].toArray below meth c H locs 0 0 (MQ below (va_Qi (fun r g1 => g1 = g ∧ r = tld kn lo 6) (zOut D cy K ad s.heap.size) (zA K ad s.heap.size)) [.ref (ad n)].toArray s 0 0 (zA K ad s.heap.size)) (F0 m 4 ls []) := by
    intro N
    induction N with
    | zero => intro k hk hN; exact absurd hN (Nat.not_lt_zero _)
    | succ N ih_4 =>
      intro k hk hN H locs ls hP hS  hl
      refine lv_iload_n hx hb dX0_told_4 rfl (lv_at hl 2 rfl) ?_
      refine lv_if_lt (tgt := 25) hx hb dX0_told_5 (by decide) (fun c_5 => ?_) (fun c_5 => ?_)
      · have hk2 : k = 6 := by have := z_m1_lt c_5 (by omega); omega
        subst hk2
        refine lv_iload_n hx hb dX0_told_25 rfl (lv_at hl 1 rfl) ?_
        exact z_iret C0 hP hS hr (⟨rfl, rfl⟩) dX0_told_26
      · have hk2 : k < 6 := by have := z_m1_ge c_5; omega
        have e5 : nI (6 - k) - 1 = nI (5 - k) := by rw [show 6 - k = (5 - k) + 1 by omega, nI_pred]
        rw [e5] at hl
        refine lv_bipush (v := 10) hx hb dX0_told_8 (by decide) ?_
        refine lv_iload_n hx hb dX0_told_10 rfl (lv_at hl 1 rfl) ?_
        refine lv_imul hx hb dX0_told_11 ?_
        refine lv_aload_n hx hb dX0_told_12 rfl (lv_at hl 0 rfl) ?_
        refine lv_iload_n hx hb dX0_told_13 rfl (lv_at hl 2 rfl) ?_
        refine z_Vi_eq (As := [.int (nI (5 - k))]) (rest := [.int (10 * (tld kn lo k))]) C0 hP hS hl.1 (m_X0_open l _ hC (by omega)) lk_X0_37 hC.n0 hC.o rfl rfl (Nat.le_of_ble_eq_true rfl) ⟨Nat.le_of_ble_eq_true rfl, Nat.le_of_ble_eq_true rfl⟩ rfl rfl ⟨Nat.zero_le _, Nat.zero_le _⟩ dX0_told_14 (fun H locs hP hS => ?_)
        refine lv_iadd hx hb dX0_told_17 ?_
        refine lv_istore_n (lv' := [(1, .int ((10 * (tld kn lo k)) + (opn kn lo (5 - k)))), (0, .ref (ad n)), (2, .int (nI (5 - k)))]) hx hb dX0_told_18 rfl hl (by decide) rfl (fun ls hl => ?_)
        refine lv_iinc (v := nI (6 - (k + 1)) - 1) (lv' := [(2, .int (nI (6 - (k + 1)) - 1)), (1, .int ((10 * (tld kn lo k)) + (opn kn lo (5 - k)))), (0, .ref (ad n))]) hx hb dX0_told_19 hl (k := 2) rfl (by rw [show 6 - (k + 1) = 5 - k by omega]; exact z_decx _) (by decide) rfl (fun ls hl => ?_)
        refine lv_goto (tgt := 4) hx hb dX0_told_22 (by decide) ?_
        exact ih_4 (k + 1) hk2 (by omega) _ _ _ hP hS  (lv_sub hl [2, 1, 0] rfl)
  exact lp_4 _ 0 (Nat.zero_le _) (Nat.lt_succ_self _) _ _ _ hP hS  (lv_sub hl [2, 1, 0] rfl)
set_option maxHeartbeats 4000000 in
set_option maxRecDepth 100000 in
theorem m_X0_sumOf (l : Launch) {D : va_G} {cy : Nat → ClassId} {K : Nat} {ad : Nat → Nat} {g : Nat → va_E} (sz : Nat) {n len mm : Nat} {fn : Nat → Int32} (hB : isA cy K ad g n len fn) (hm : mm ≤ len) (hlen : len < 2 ^ 31) : Met l yX0_sumOf (zs yX0_sumOf cX0_sumOf 4 (some .int)) ({ frames := 0, cells := 0, slots := 0, locals := 0 } : Room) (va_Pc [.ref (ad n), .int (nI mm)] (zIn D cy K ad g sz)) (va_Qi (fun r g1 => g1 = g ∧ r = sumN fn mm) (zOut D cy K ad sz) (zA K ad sz)) 0 0 (zA K ad sz) := by
  refine z_met (by decide) (Nat.le_of_ble_eq_true rfl) (fun p e s m below meth c ls hsz hl C0 hr hnm hP hS => ?_)
  subst hsz
  have hl : lv_has ls 4 [(0, .ref (ad n)), (1, .int (nI mm))] := hl
  have hx := C0.1; have hb := C0.2.1; have hown := C0.2.2.2.1; have hts := C0.2.2.2.2.1
  refine lv_iconst (v := 0) hx hb dX0_sumOf_0 (by decide) ?_
  refine lv_istore_n (lv' := [(2, .int 0), (0, .ref (ad n)), (1, .int (nI mm))]) hx hb dX0_sumOf_1 rfl hl (by decide) rfl (fun ls hl => ?_)
  refine lv_iconst (v := 0) hx hb dX0_sumOf_2 (by decide) ?_
  refine lv_istore_n (lv' := [(3, .int 0), (2, .int 0), (0, .ref (ad n)), (1, .int (nI mm))]) hx hb dX0_sumOf_3 rfl hl (by decide) rfl (fun ls hl => ?_)
  have lp_4 : ∀ (N : Nat) (k : Nat) (hk : k ≤ mm), mm - k < N → ∀ (H : Heap) (locs : List Loc) (ls : Array Slot), zP D K ad g (zA K ad s.heap.size) H → va_S (zA K ad s.heap.size) s.heap H locs → lv_has ls 4 [(0, .ref (ad n)), (1, .int (nI mm)), (2, .int (sumN fn k)), (3, .int (nI k))] → W p l e ({ frames := 0, cells := 0, slots := 0, locals := 0 } : Room) s m [.ref (ad n), .int (nI mm)].toArray below meth c H locs 0 0 (MQ below (va_Qi (fun r g1 => g1 = g ∧ r = sumN fn mm) (zOut D cy K ad s.heap.size) (zA K ad s.heap.size)) [.ref (ad n), .int (nI mm)].toArray s 0 0 (zA K ad s.heap.size)) (F0 m 4 ls []) := by
    intro N
    induction N with
    | zero => intro k hk hN; exact absurd hN (Nat.not_lt_zero _)
    | succ N ih_4 =>
      intro k hk hN H locs ls hP hS  hl
      refine lv_iload_n hx hb dX0_sumOf_4 rfl (lv_at hl 3 rfl) ?_
      refine lv_iload_n hx hb dX0_sumOf_5 rfl (lv_at hl 1 rfl) ?_
      refine lv_icmp_ge (tgt := 27) hx hb dX0_sumOf_6 (by decide) (fun c_6 => ?_) (fun c_6 => ?_)
      · have hk2 : k = mm := by have := z_ge_t c_6 (by omega) (by omega); omega
        subst hk2
        refine lv_iload_n hx hb dX0_sumOf_27 rfl (lv_at hl 2 rfl) ?_
        exact z_iret C0 hP hS hr (⟨rfl, rfl⟩) dX0_sumOf_28
      · have hk2 : k < mm := z_ge_f c_6 (by omega) (by omega)
        refine lv_iload_n hx hb dX0_sumOf_9 rfl (lv_at hl 3 rfl) ?_
        refine lv_aload_n hx hb dX0_sumOf_10 rfl (lv_at hl 0 rfl) ?_
        refine z_alen (v := (nI len)) C0 hP hB.n0 hB.a_fn rfl rfl dX0_sumOf_11 ?_
        refine lv_icmp_ge (tgt := 27) hx hb dX0_sumOf_12 (by decide) (fun c_12 => absurd (z_ge_t c_12 (by omega) (by omega)) (by omega)) (fun c_12 => ?_)
        refine lv_iload_n hx hb dX0_sumOf_15 rfl (lv_at hl 2 rfl) ?_
        refine lv_aload_n hx hb dX0_sumOf_16 rfl (lv_at hl 0 rfl) ?_
        refine lv_iload_n hx hb dX0_sumOf_17 rfl (lv_at hl 3 rfl) ?_
        refine z_iald C0 hP hB.n0 hB.a_fn (zIx_nI (by omega) hlen) dX0_sumOf_18 ?_
        refine lv_iadd hx hb dX0_sumOf_19 ?_
        refine lv_istore_n (lv' := [(2, .int ((sumN fn k) + (fn k))), (0, .ref (ad n)), (1, .int (nI mm)), (3, .int (nI k))]) hx hb dX0_sumOf_20 rfl hl (by decide) rfl (fun ls hl => ?_)
        refine lv_iinc (v := nI (k + 1)) (lv' := [(3, .int (nI (k + 1))), (2, .int ((sumN fn k) + (fn k))), (0, .ref (ad n)), (1, .int (nI mm))]) hx hb dX0_sumOf_21 hl (k := 3) rfl (z_inc _) (by decide) rfl (fun ls hl => ?_)
        refine lv_goto (tgt := 4) hx hb dX0_sumOf_24 (by decide) ?_
        exact ih_4 (k + 1) hk2 (by omega) _ _ _ hP hS  (lv_sub hl [2, 3, 1, 0] rfl)
  exact lp_4 _ 0 (Nat.zero_le _) (Nat.lt_succ_self _) _ _ _ hP hS  (lv_sub hl [2, 3, 1, 0] rfl)
set_option maxHeartbeats 4000000 in
set_option maxRecDepth 100000 in
theorem m_X0_partsTogether (l : Launch) {D : va_G} {cy : Nat → ClassId} {K : Nat} {ad : Nat → Nat} {g : Nat → va_E} (sz : Nat) {n : Nat} {kn lo pa : Nat → Int32} {hu sl : Int32} {mm : Nat} (hC : isC cy K ad g n kn lo pa (nI mm) hu sl) (hm : mm ≤ 16) : Met l yX0_partsTogether (zs yX0_partsTogether cX0_partsTogether 1 (some .int)) ({ frames := 1, cells := 0, slots := 0, locals := 23 } : Room) (va_Pc [.ref (ad n)] (zIn D cy K ad g sz)) (va_Qi (fun r g1 => g1 = g ∧ r = sumN pa mm) (zOut D cy K ad sz) (zA K ad sz)) 0 0 (zA K ad sz) := by
  refine z_met (by decide) (Nat.le_of_ble_eq_true rfl) (fun p e s m below meth c ls hsz hl C0 hr hnm hP hS => ?_)
  subst hsz
  have hl : lv_has ls 1 [(0, .ref (ad n))] := hl
  have hx := C0.1; have hb := C0.2.1; have hown := C0.2.2.2.1; have hts := C0.2.2.2.2.1
  refine lv_aload_n hx hb dX0_partsTogether_0 rfl (lv_at hl 0 rfl) ?_
  refine z_get C0 hP hC.n0 hC.o fd_X0_18 rfl dX0_partsTogether_1 ?_
  refine lv_aload_n hx hb dX0_partsTogether_4 rfl (lv_at hl 0 rfl) ?_
  refine z_get C0 hP hC.n0 hC.o fd_X0_21 rfl dX0_partsTogether_5 ?_
  refine z_Si_eq (As := [.ref (ad (n + 3)), .int (nI mm)]) (rest := []) C0 hP hS hl.1 (m_X0_sumOf l _ (isA.of hC.n3 hC.a_pa) hm (by decide)) lk_X0_41 rfl rfl (Nat.le_of_ble_eq_true rfl) ⟨Nat.le_of_ble_eq_true rfl, Nat.le_of_ble_eq_true rfl⟩ rfl rfl ⟨Nat.zero_le _, Nat.zero_le _⟩ dX0_partsTogether_8 (fun H locs hP hS => ?_)
  exact z_iret C0 hP hS hr (⟨rfl, rfl⟩) dX0_partsTogether_11
set_option maxHeartbeats 4000000 in
set_option maxRecDepth 100000 in
theorem m_X0_allKnots (l : Launch) {D : va_G} {cy : Nat → ClassId} {K : Nat} {ad : Nat → Nat} {g : Nat → va_E} (sz : Nat) {n : Nat} {kn lo pa : Nat → Int32} {pc hu sl : Int32} (hC : isC cy K ad g n kn lo pa pc hu sl) : Met l yX0_allKnots (zs yX0_allKnots cX0_allKnots 1 (some .int)) ({ frames := 1, cells := 0, slots := 0, locals := 23 } : Room) (va_Pc [.ref (ad n)] (zIn D cy K ad g sz)) (va_Qi (fun r g1 => g1 = g ∧ r = sumN kn 6) (zOut D cy K ad sz) (zA K ad sz)) 0 0 (zA K ad sz) := by
  refine z_met (by decide) (Nat.le_of_ble_eq_true rfl) (fun p e s m below meth c ls hsz hl C0 hr hnm hP hS => ?_)
  subst hsz
  have hl : lv_has ls 1 [(0, .ref (ad n))] := hl
  have hx := C0.1; have hb := C0.2.1; have hown := C0.2.2.2.1; have hts := C0.2.2.2.2.1
  refine lv_aload_n hx hb dX0_allKnots_0 rfl (lv_at hl 0 rfl) ?_
  refine z_get C0 hP hC.n0 hC.o fd_X0_9 rfl dX0_allKnots_1 ?_
  refine lv_bipush (v := (nI 6)) hx hb dX0_allKnots_4 (by decide) ?_
  refine z_Si_eq (As := [.ref (ad (n + 1)), .int (nI 6)]) (rest := []) C0 hP hS hl.1 (m_X0_sumOf l _ (isA.of hC.n1 hC.a_kn) (Nat.le_refl 6) (by decide)) lk_X0_41 rfl rfl (Nat.le_of_ble_eq_true rfl) ⟨Nat.le_of_ble_eq_true rfl, Nat.le_of_ble_eq_true rfl⟩ rfl rfl ⟨Nat.zero_le _, Nat.zero_le _⟩ dX0_allKnots_6 (fun H locs hP hS => ?_)
  exact z_iret C0 hP hS hr (⟨rfl, rfl⟩) dX0_allKnots_9
set_option maxHeartbeats 4000000 in
set_option maxRecDepth 100000 in
theorem m_X0_allLoops (l : Launch) {D : va_G} {cy : Nat → ClassId} {K : Nat} {ad : Nat → Nat} {g : Nat → va_E} (sz : Nat) {n : Nat} {kn lo pa : Nat → Int32} {pc hu sl : Int32} (hC : isC cy K ad g n kn lo pa pc hu sl) : Met l yX0_allLoops (zs yX0_allLoops cX0_allLoops 1 (some .int)) ({ frames := 1, cells := 0, slots := 0, locals := 23 } : Room) (va_Pc [.ref (ad n)] (zIn D cy K ad g sz)) (va_Qi (fun r g1 => g1 = g ∧ r = sumN lo 6) (zOut D cy K ad sz) (zA K ad sz)) 0 0 (zA K ad sz) := by
  refine z_met (by decide) (Nat.le_of_ble_eq_true rfl) (fun p e s m below meth c ls hsz hl C0 hr hnm hP hS => ?_)
  subst hsz
  have hl : lv_has ls 1 [(0, .ref (ad n))] := hl
  have hx := C0.1; have hb := C0.2.1; have hown := C0.2.2.2.1; have hts := C0.2.2.2.2.1
  refine lv_aload_n hx hb dX0_allLoops_0 rfl (lv_at hl 0 rfl) ?_
  refine z_get C0 hP hC.n0 hC.o fd_X0_15 rfl dX0_allLoops_1 ?_
  refine lv_bipush (v := (nI 6)) hx hb dX0_allLoops_4 (by decide) ?_
  refine z_Si_eq (As := [.ref (ad (n + 2)), .int (nI 6)]) (rest := []) C0 hP hS hl.1 (m_X0_sumOf l _ (isA.of hC.n2 hC.a_lo) (Nat.le_refl 6) (by decide)) lk_X0_41 rfl rfl (Nat.le_of_ble_eq_true rfl) ⟨Nat.le_of_ble_eq_true rfl, Nat.le_of_ble_eq_true rfl⟩ rfl rfl ⟨Nat.zero_le _, Nat.zero_le _⟩ dX0_allLoops_6 (fun H locs hP hS => ?_)
  exact z_iret C0 hP hS hr (⟨rfl, rfl⟩) dX0_allLoops_9
set_option maxHeartbeats 4000000 in
set_option maxRecDepth 100000 in
theorem m_X0_ties (l : Launch) {D : va_G} {cy : Nat → ClassId} {K : Nat} {ad : Nat → Nat} {g : Nat → va_E} (sz : Nat) {n : Nat} {kn lo pa : Nat → Int32} {pc hu sl : Int32} (hC : isC cy K ad g n kn lo pa pc hu sl) : Met l yX0_ties (zs yX0_ties cX0_ties 1 (some .int)) ({ frames := 2, cells := 0, slots := 0, locals := 43 } : Room) (va_Pc [.ref (ad n)] (zIn D cy K ad g sz)) (va_Qi (fun r g1 => g1 = g ∧ r = sumN kn 6 + sumN lo 6) (zOut D cy K ad sz) (zA K ad sz)) 0 0 (zA K ad sz) := by
  refine z_met (by decide) (Nat.le_of_ble_eq_true rfl) (fun p e s m below meth c ls hsz hl C0 hr hnm hP hS => ?_)
  subst hsz
  have hl : lv_has ls 1 [(0, .ref (ad n))] := hl
  have hx := C0.1; have hb := C0.2.1; have hown := C0.2.2.2.1; have hts := C0.2.2.2.2.1
  refine lv_aload_n hx hb dX0_ties_0 rfl (lv_at hl 0 rfl) ?_
  refine z_Vi_eq (As := []) (rest := []) C0 hP hS hl.1 (m_X0_allKnots l _ hC) lk_X0_52 hC.n0 hC.o rfl rfl (Nat.le_of_ble_eq_true rfl) ⟨Nat.le_of_ble_eq_true rfl, Nat.le_of_ble_eq_true rfl⟩ rfl rfl ⟨Nat.zero_le _, Nat.zero_le _⟩ dX0_ties_1 (fun H locs hP hS => ?_)
  refine lv_aload_n hx hb dX0_ties_4 rfl (lv_at hl 0 rfl) ?_
  refine z_Vi_eq (As := []) (rest := [.int (sumN kn 6)]) C0 hP hS hl.1 (m_X0_allLoops l _ hC) lk_X0_55 hC.n0 hC.o rfl rfl (Nat.le_of_ble_eq_true rfl) ⟨Nat.le_of_ble_eq_true rfl, Nat.le_of_ble_eq_true rfl⟩ rfl rfl ⟨Nat.zero_le _, Nat.zero_le _⟩ dX0_ties_5 (fun H locs hP hS => ?_)
  refine lv_iadd hx hb dX0_ties_8 ?_
  exact z_iret C0 hP hS hr (⟨rfl, rfl⟩) dX0_ties_9
set_option maxHeartbeats 4000000 in
set_option maxRecDepth 100000 in
theorem m_X0_lack (l : Launch) {D : va_G} {cy : Nat → ClassId} {K : Nat} {ad : Nat → Nat} {g : Nat → va_E} (sz : Nat) {n : Nat} {kn lo pa : Nat → Int32} {hu sl : Int32} {mm : Nat} (hC : isC cy K ad g n kn lo pa (nI mm) hu sl) (hm : mm ≤ 16) : Met l yX0_lack (zs yX0_lack cX0_lack 1 (some .int)) ({ frames := 2, cells := 0, slots := 0, locals := 43 } : Room) (va_Pc [.ref (ad n)] (zIn D cy K ad g sz)) (va_Qi (fun r g1 => g1 = g ∧ r = sumN pa mm - tld kn lo 6) (zOut D cy K ad sz) (zA K ad sz)) 0 0 (zA K ad sz) := by
  refine z_met (by decide) (Nat.le_of_ble_eq_true rfl) (fun p e s m below meth c ls hsz hl C0 hr hnm hP hS => ?_)
  subst hsz
  have hl : lv_has ls 1 [(0, .ref (ad n))] := hl
  have hx := C0.1; have hb := C0.2.1; have hown := C0.2.2.2.1; have hts := C0.2.2.2.2.1
  refine lv_aload_n hx hb dX0_lack_0 rfl (lv_at hl 0 rfl) ?_
  refine z_Vi_eq (As := []) (rest := []) C0 hP hS hl.1 (m_X0_partsTogether l _ hC hm) lk_X0_45 hC.n0 hC.o rfl rfl (Nat.le_of_ble_eq_true rfl) ⟨Nat.le_of_ble_eq_true rfl, Nat.le_of_ble_eq_true rfl⟩ rfl rfl ⟨Nat.zero_le _, Nat.zero_le _⟩ dX0_lack_1 (fun H locs hP hS => ?_)
  refine lv_aload_n hx hb dX0_lack_4 rfl (lv_at hl 0 rfl) ?_
  refine z_Vi_eq (As := []) (rest := [.int (sumN pa mm)]) C0 hP hS hl.1 (m_X0_told l _ hC) lk_X0_49 hC.n0 hC.o rfl rfl (Nat.le_of_ble_eq_true rfl) ⟨Nat.le_of_ble_eq_true rfl, Nat.le_of_ble_eq_true rfl⟩ rfl rfl ⟨Nat.zero_le _, Nat.zero_le _⟩ dX0_lack_5 (fun H locs hP hS => ?_)
  refine lv_isub hx hb dX0_lack_8 ?_
  exact z_iret C0 hP hS hr (⟨rfl, rfl⟩) dX0_lack_9
set_option maxHeartbeats 4000000 in
set_option maxRecDepth 100000 in
theorem m_X0_loopsFor (l : Launch) {D : va_G} {cy : Nat → ClassId} {K : Nat} {ad : Nat → Nat} {g : Nat → va_E} (sz : Nat) {n : Nat} {kn lo pa : Nat → Int32} {pc hu sl : Int32} {j : Nat} {x : Int32} (hC : isC cy K ad g n kn lo pa pc hu sl) (hj : j < 6) : Met l yX0_loopsFor (zs yX0_loopsFor cX0_loopsFor 3 (some .int)) ({ frames := 1, cells := 0, slots := 0, locals := 21 } : Room) (va_Pc [.ref (ad n), .int (nI j), .int x] (zIn D cy K ad g sz)) (va_Qi (fun r g1 => g1 = g ∧ r = (opn kn lo j + x) / 10) (zOut D cy K ad sz) (zA K ad sz)) 0 0 (zA K ad sz) := by
  refine z_met (by decide) (Nat.le_of_ble_eq_true rfl) (fun p e s m below meth c ls hsz hl C0 hr hnm hP hS => ?_)
  subst hsz
  have hl : lv_has ls 3 [(0, .ref (ad n)), (1, .int (nI j)), (2, .int x)] := hl
  have hx := C0.1; have hb := C0.2.1; have hown := C0.2.2.2.1; have hts := C0.2.2.2.2.1
  refine lv_aload_n hx hb dX0_loopsFor_0 rfl (lv_at hl 0 rfl) ?_
  refine lv_iload_n hx hb dX0_loopsFor_1 rfl (lv_at hl 1 rfl) ?_
  refine z_Vi_eq (As := [.int (nI j)]) (rest := []) C0 hP hS hl.1 (m_X0_open l _ hC hj) lk_X0_37 hC.n0 hC.o rfl rfl (Nat.le_of_ble_eq_true rfl) ⟨Nat.le_of_ble_eq_true rfl, Nat.le_of_ble_eq_true rfl⟩ rfl rfl ⟨Nat.zero_le _, Nat.zero_le _⟩ dX0_loopsFor_2 (fun H locs hP hS => ?_)
  refine lv_iload_n hx hb dX0_loopsFor_5 rfl (lv_at hl 2 rfl) ?_
  refine lv_iadd hx hb dX0_loopsFor_6 ?_
  refine lv_bipush (v := 10) hx hb dX0_loopsFor_7 (by decide) ?_
  refine lv_idiv hx hb dX0_loopsFor_9 (by decide) ?_
  exact z_iret C0 hP hS hr (⟨rfl, rfl⟩) dX0_loopsFor_10
set_option maxHeartbeats 4000000 in
set_option maxRecDepth 100000 in
theorem m_X0_refusal (l : Launch) {D : va_G} {cy : Nat → ClassId} {K : Nat} {ad : Nat → Nat} {g : Nat → va_E} (sz : Nat) {n : Nat} {kn lo pa : Nat → Int32} {pc hu sl : Int32} {num room : Int32} (hC : isC cy K ad g n kn lo pa pc hu sl) : Met l yX0_refusal (zs yX0_refusal cX0_refusal 9 (some .int)) ({ frames := 2, cells := 0, slots := 0, locals := 43 } : Room) (va_Pc [.ref (ad n), .int num, .int room] (zIn D cy K ad g sz)) (va_Qi (fun r g1 => g1 = g ∧ r = refuse kn lo num room) (zOut D cy K ad sz) (zA K ad sz)) 0 0 (zA K ad sz) := by
  refine z_met (by decide) (Nat.le_of_ble_eq_true rfl) (fun p e s m below meth c ls hsz hl C0 hr hnm hP hS => ?_)
  subst hsz
  have hl : lv_has ls 9 [(0, .ref (ad n)), (1, .int num), (2, .int room)] := hl
  have hx := C0.1; have hb := C0.2.1; have hown := C0.2.2.2.1; have hts := C0.2.2.2.2.1
  refine lv_aload_n hx hb dX0_refusal_0 rfl (lv_at hl 0 rfl) ?_
  refine z_Vi_eq (As := []) (rest := []) C0 hP hS hl.1 (m_X0_told l _ hC) lk_X0_49 hC.n0 hC.o rfl rfl (Nat.le_of_ble_eq_true rfl) ⟨Nat.le_of_ble_eq_true rfl, Nat.le_of_ble_eq_true rfl⟩ rfl rfl ⟨Nat.zero_le _, Nat.zero_le _⟩ dX0_refusal_1 (fun H locs hP hS => ?_)
  refine lv_iload_n hx hb dX0_refusal_4 rfl (lv_at hl 1 rfl) ?_
  refine lv_iadd hx hb dX0_refusal_5 ?_
  refine lv_ldc hx hb hown (hts _ q413) dX0_refusal_6 ?_
  refine lv_icmp_le (tgt := 13) hx hb dX0_refusal_8 (by decide) (fun c_8 => ?_) (fun c_8 => ?_)
  · refine lv_iload_n hx hb dX0_refusal_13 rfl (lv_at hl 1 rfl) ?_
    refine lv_istore_n (lv' := [(3, .int num), (0, .ref (ad n)), (1, .int num), (2, .int room)]) hx hb dX0_refusal_14 rfl hl (by decide) rfl (fun ls hl => ?_)
    refine lv_iconst (v := 0) hx hb dX0_refusal_15 (by decide) ?_
    refine lv_istore (lv' := [(4, .int 0), (3, .int num), (0, .ref (ad n)), (1, .int num), (2, .int room)]) hx hb dX0_refusal_16 hl (by decide) rfl (fun ls hl => ?_)
    refine lv_iconst (v := 0) hx hb dX0_refusal_18 (by decide) ?_
    refine lv_istore (lv' := [(5, .int 0), (4, .int 0), (3, .int num), (0, .ref (ad n)), (1, .int num), (2, .int room)]) hx hb dX0_refusal_19 hl (by decide) rfl (fun ls hl => ?_)
    have lp_21 : ∀ (N : Nat) (k : Nat) (hk : k ≤ 6) (hn : rsn kn lo num room k = 0), 6 - k < N → ∀ (H : Heap) (locs : List Loc) (ls : Array Slot), zP D K ad g (zA K ad s.heap.size) H → va_S (zA K ad s.heap.size) s.heap H locs → lv_has ls 9 [(0, .ref (ad n)), (1, .int num), (2, .int room), (3, .int (lrest num k)), (4, .int (lcar kn lo num k)), (5, .int (nI k))] → W p l e ({ frames := 2, cells := 0, slots := 0, locals := 43 } : Room) s m [.ref (ad n), .int num, .int room].toArray below meth c H locs 0 0 (MQ below (va_Qi (fun r g1 => g1 = g ∧ r = refuse kn lo num room) (zOut D cy K ad s.heap.size) (zA K ad s.heap.size)) [.ref (ad n), .int num, .int room].toArray s 0 0 (zA K ad s.heap.size)) (F0 m 21 ls []) := by
      intro N
      induction N with
      | zero => intro k hk hn hN; exact absurd hN (Nat.not_lt_zero _)
      | succ N ih_21 =>
        intro k hk hn hN H locs ls hP hS  hl
        refine lv_iload hx hb dX0_refusal_21 (lv_at hl 5 rfl) ?_
        refine lv_bipush (v := 6) hx hb dX0_refusal_23 (by decide) ?_
        refine lv_icmp_ge (tgt := 89) hx hb dX0_refusal_25 (by decide) (fun c_25 => ?_) (fun c_25 => ?_)
        · have hk2 : k = 6 := by have := z_ge_t (b := 6) c_25 (by omega) (by omega); omega
          subst hk2
          refine lv_iconst (v := 0) hx hb dX0_refusal_89 (by decide) ?_
          exact z_iret C0 hP hS hr (⟨rfl, ((if_pos c_8).trans hn).symm⟩) dX0_refusal_90
        · have hk2 : k < 6 := z_ge_f (b := 6) c_25 (by omega) (by omega)
          refine lv_iload_n hx hb dX0_refusal_28 rfl (lv_at hl 3 rfl) ?_
          refine lv_bipush (v := 10) hx hb dX0_refusal_29 (by decide) ?_
          refine lv_irem hx hb dX0_refusal_31 (by decide) ?_
          refine lv_iload hx hb dX0_refusal_32 (lv_at hl 4 rfl) ?_
          refine lv_iadd hx hb dX0_refusal_34 ?_
          refine z_topi (y := mK kn lo num k) rfl ?_
          refine lv_istore (lv' := [(6, .int (mK kn lo num k)), (0, .ref (ad n)), (1, .int num), (2, .int room), (3, .int (lrest num k)), (4, .int (lcar kn lo num k)), (5, .int (nI k))]) hx hb dX0_refusal_35 hl (by decide) rfl (fun ls hl => ?_)
          refine lv_aload_n hx hb dX0_refusal_37 rfl (lv_at hl 1 rfl) ?_
          refine lv_iload hx hb dX0_refusal_38 (lv_at hl 6 rfl) ?_
          refine lv_iload hx hb dX0_refusal_40 (lv_at hl 0 rfl) ?_
          refine z_Vi_eq (As := [.int (nI k), .int (mK kn lo num k)]) (rest := []) C0 hP hS hl.1 (m_X0_loopsFor l _ hC hk2) lk_X0_59 hC.n0 hC.o rfl rfl (Nat.le_of_ble_eq_true rfl) ⟨Nat.le_of_ble_eq_true rfl, Nat.le_of_ble_eq_true rfl⟩ rfl rfl ⟨Nat.zero_le _, Nat.zero_le _⟩ dX0_refusal_42 (fun H locs hP hS => ?_)
          refine z_topi (y := mL kn lo num k) rfl ?_
          refine lv_istore (lv' := [(7, .int (mL kn lo num k)), (6, .int (mK kn lo num k)), (0, .ref (ad n)), (1, .int num), (2, .int room), (3, .int (lrest num k)), (4, .int (lcar kn lo num k)), (5, .int (nI k))]) hx hb dX0_refusal_45 hl (by decide) rfl (fun ls hl => ?_)
          refine lv_iload hx hb dX0_refusal_47 (lv_at hl 1 rfl) ?_
          refine lv_iload hx hb dX0_refusal_49 (lv_at hl 0 rfl) ?_
          refine lv_iadd hx hb dX0_refusal_51 ?_
          refine lv_istore (lv' := [(8, .int ((mK kn lo num k) + (mL kn lo num k))), (7, .int (mL kn lo num k)), (6, .int (mK kn lo num k)), (0, .ref (ad n)), (1, .int num), (2, .int room), (3, .int (lrest num k)), (4, .int (lcar kn lo num k)), (5, .int (nI k))]) hx hb dX0_refusal_52 hl (by decide) rfl (fun ls hl => ?_)
          refine lv_iload hx hb dX0_refusal_54 (lv_at hl 0 rfl) ?_
          have lp_74 : ∀  (hnf : rsn kn lo num room (k + 1) = 0), ∀ (H : Heap) (locs : List Loc) (ls : Array Slot), zP D K ad g (zA K ad s.heap.size) H → va_S (zA K ad s.heap.size) s.heap H locs → lv_has ls 9 [(0, .ref (ad n)), (1, .int num), (2, .int room), (3, .int (lrest num k)), (4, .int (lcar kn lo num k)), (5, .int (nI k)), (7, .int (mL kn lo num k))] → W p l e ({ frames := 2, cells := 0, slots := 0, locals := 43 } : Room) s m [.ref (ad n), .int num, .int room].toArray below meth c H locs 0 0 (MQ below (va_Qi (fun r g1 => g1 = g ∧ r = refuse kn lo num room) (zOut D cy K ad s.heap.size) (zA K ad s.heap.size)) [.ref (ad n), .int num, .int room].toArray s 0 0 (zA K ad s.heap.size)) (F0 m 74 ls []) := by
            intro  hnf H locs ls hP hS  hl
            refine lv_iload_n hx hb dX0_refusal_74 rfl (lv_at hl 3 rfl) ?_
            refine lv_bipush (v := 10) hx hb dX0_refusal_75 (by decide) ?_
            refine lv_idiv hx hb dX0_refusal_77 (by decide) ?_
            refine lv_istore_n (lv' := [(3, .int ((lrest num k) / 10)), (0, .ref (ad n)), (1, .int num), (2, .int room), (4, .int (lcar kn lo num k)), (5, .int (nI k)), (7, .int (mL kn lo num k))]) hx hb dX0_refusal_78 rfl hl (by decide) rfl (fun ls hl => ?_)
            refine lv_iload hx hb dX0_refusal_79 (lv_at hl 6 rfl) ?_
            refine lv_istore (lv' := [(4, .int (mL kn lo num k)), (3, .int ((lrest num k) / 10)), (0, .ref (ad n)), (1, .int num), (2, .int room), (5, .int (nI k)), (7, .int (mL kn lo num k))]) hx hb dX0_refusal_81 hl (by decide) rfl (fun ls hl => ?_)
            refine lv_iinc (v := nI (k + 1)) (lv' := [(5, .int (nI (k + 1))), (4, .int (mL kn lo num k)), (3, .int ((lrest num k) / 10)), (0, .ref (ad n)), (1, .int num), (2, .int room), (7, .int (mL kn lo num k))]) hx hb dX0_refusal_83 hl (k := 5) rfl (z_inc _) (by decide) rfl (fun ls hl => ?_)
            refine lv_goto (tgt := 21) hx hb dX0_refusal_86 (by decide) ?_
            exact ih_21 (k + 1) hk2 hnf (by omega) _ _ _ hP hS  (lv_sub hl [3, 4, 5, 2, 1, 0] rfl)
          refine lv_if_le (tgt := 74) hx hb dX0_refusal_56 (by decide) (fun c_56 => ?_) (fun c_56 => ?_)
          · have hnf := rsn_a hn c_56
            exact lp_74  hnf _ _ _ hP hS  (lv_sub hl [3, 4, 5, 6, 7, 8, 1] rfl)
          · refine lv_aload_n hx hb dX0_refusal_59 rfl (lv_at hl 3 rfl) ?_
            refine lv_iload hx hb dX0_refusal_60 (lv_at hl 8 rfl) ?_
            refine z_Vi_eq (As := [.int (nI k)]) (rest := []) C0 hP hS hl.1 (m_X0_tiesAt l _ hC hk2) lk_X0_63 hC.n0 hC.o rfl rfl (Nat.le_of_ble_eq_true rfl) ⟨Nat.le_of_ble_eq_true rfl, Nat.le_of_ble_eq_true rfl⟩ rfl rfl ⟨Nat.zero_le _, Nat.zero_le _⟩ dX0_refusal_62 (fun H locs hP hS => ?_)
            refine lv_iload hx hb dX0_refusal_65 (lv_at hl 0 rfl) ?_
            refine lv_iadd hx hb dX0_refusal_67 ?_
            refine lv_iload_n hx hb dX0_refusal_68 rfl (lv_at hl 5 rfl) ?_
            refine lv_icmp_le (tgt := 74) hx hb dX0_refusal_69 (by decide) (fun c_69 => ?_) (fun c_69 => ?_)
            · have hnf := rsn_b hn c_69
              exact lp_74  hnf _ _ _ hP hS  (lv_sub hl [3, 4, 5, 6, 7, 8, 1] rfl)
            · refine lv_iconst (v := 2) hx hb dX0_refusal_72 (by decide) ?_
              exact z_iret C0 hP hS hr (⟨rfl, ((if_pos c_8).trans (rsn_c c_56 c_69 6 hk2)).symm⟩) dX0_refusal_73
    exact lp_21 _ 0 (Nat.zero_le _) rfl (Nat.lt_succ_self _) _ _ _ hP hS  (lv_sub hl [3, 4, 5, 2, 1, 0] rfl)
  · refine lv_iconst (v := 1) hx hb dX0_refusal_11 (by decide) ?_
    exact z_iret C0 hP hS hr (⟨rfl, (if_neg c_8).symm⟩) dX0_refusal_12
set_option maxHeartbeats 4000000 in
set_option maxRecDepth 100000 in
theorem m_X0_refusalOfPart (l : Launch) {D : va_G} {cy : Nat → ClassId} {K : Nat} {ad : Nat → Nat} {g : Nat → va_E} (sz : Nat) {n : Nat} {kn lo pa : Nat → Int32} {hu sl : Int32} {mm : Nat} {num room : Int32} (hC : isC cy K ad g n kn lo pa (nI mm) hu sl) (hm : mm ≤ 16) : Met l yX0_refusalOfPart (zs yX0_refusalOfPart cX0_refusalOfPart 3 (some .int)) ({ frames := 3, cells := 0, slots := 0, locals := 71 } : Room) (va_Pc [.ref (ad n), .int num, .int room] (zIn D cy K ad g sz)) (va_Qi (fun r g1 => g1 = g ∧ r = rop kn lo mm num room) (zOut D cy K ad sz) (zA K ad sz)) 0 0 (zA K ad sz) := by
  refine z_met (by decide) (Nat.le_of_ble_eq_true rfl) (fun p e s m below meth c ls hsz hl C0 hr hnm hP hS => ?_)
  subst hsz
  have hl : lv_has ls 3 [(0, .ref (ad n)), (1, .int num), (2, .int room)] := hl
  have hx := C0.1; have hb := C0.2.1; have hown := C0.2.2.2.1; have hts := C0.2.2.2.2.1
  refine lv_aload_n hx hb dX0_refusalOfPart_0 rfl (lv_at hl 0 rfl) ?_
  refine z_get C0 hP hC.n0 hC.o fd_X0_21 rfl dX0_refusalOfPart_1 ?_
  refine lv_bipush (v := 16) hx hb dX0_refusalOfPart_4 (by decide) ?_
  refine lv_icmp_lt (tgt := 13) hx hb dX0_refusalOfPart_6 (by decide) (fun c_6 => ?_) (fun c_6 => ?_)
  · have hm2 : mm < 16 := z_lt_t (b := 16) c_6 (by omega) (by omega)
    refine lv_aload_n hx hb dX0_refusalOfPart_13 rfl (lv_at hl 0 rfl) ?_
    refine lv_iload_n hx hb dX0_refusalOfPart_14 rfl (lv_at hl 1 rfl) ?_
    refine lv_iload_n hx hb dX0_refusalOfPart_15 rfl (lv_at hl 2 rfl) ?_
    refine z_Vi_eq (As := [.int num, .int room]) (rest := []) C0 hP hS hl.1 (m_X0_refusal l _ hC) lk_X0_66 hC.n0 hC.o rfl rfl (Nat.le_of_ble_eq_true rfl) ⟨Nat.le_of_ble_eq_true rfl, Nat.le_of_ble_eq_true rfl⟩ rfl rfl ⟨Nat.zero_le _, Nat.zero_le _⟩ dX0_refusalOfPart_16 (fun H locs hP hS => ?_)
    exact z_iret C0 hP hS hr (⟨rfl, (if_pos hm2).symm⟩) dX0_refusalOfPart_19
  · have hm2 : 16 ≤ mm := z_lt_f (b := 16) c_6 (by omega) (by omega)
    refine lv_iconst (v := 3) hx hb dX0_refusalOfPart_9 (by decide) ?_
    refine lv_goto (tgt := 19) hx hb dX0_refusalOfPart_10 (by decide) ?_
    exact z_iret C0 hP hS hr (⟨rfl, (if_neg (by omega)).symm⟩) dX0_refusalOfPart_19
set_option maxHeartbeats 4000000 in
set_option maxRecDepth 100000 in
theorem m_X0_tieKnots (l : Launch) {D : va_G} {cy : Nat → ClassId} {K : Nat} {ad : Nat → Nat} {g : Nat → va_E} (sz : Nat) {n : Nat} {kn lo pa : Nat → Int32} {pc hu sl : Int32} {num : Int32} (hC : isC cy K ad g n kn lo pa pc hu sl) : Met l yX0_tieKnots (zs yX0_tieKnots cX0_tieKnots 7 none) ({ frames := 2, cells := 0, slots := 0, locals := 43 } : Room) (va_Pc [.ref (ad n), .int num] (zIn D cy K ad g sz)) (va_Qv (fun g1 => isC cy K ad g1 n (tK kn lo num 6) (tL kn lo num 6) pa pc hu sl ∧ zFr (zRg n (n + 4)) g g1) (zOut D cy K ad sz) (zA K ad sz)) 0 0 (zA K ad sz) := by
  refine z_met (by decide) (Nat.le_of_ble_eq_true rfl) (fun p e s m below meth c ls hsz hl C0 hr hnm hP hS => ?_)
  subst hsz
  have hl : lv_has ls 7 [(0, .ref (ad n)), (1, .int num)] := hl
  have hx := C0.1; have hb := C0.2.1; have hown := C0.2.2.2.1; have hts := C0.2.2.2.2.1
  have hFr : zFr (zRg n (n + 4)) g g := zFr.rf
  refine lv_iload_n hx hb dX0_tieKnots_0 rfl (lv_at hl 1 rfl) ?_
  refine lv_istore_n (lv' := [(2, .int num), (0, .ref (ad n)), (1, .int num)]) hx hb dX0_tieKnots_1 rfl hl (by decide) rfl (fun ls hl => ?_)
  refine lv_iconst (v := 0) hx hb dX0_tieKnots_2 (by decide) ?_
  refine lv_istore_n (lv' := [(3, .int 0), (2, .int num), (0, .ref (ad n)), (1, .int num)]) hx hb dX0_tieKnots_3 rfl hl (by decide) rfl (fun ls hl => ?_)
  refine lv_iconst (v := 0) hx hb dX0_tieKnots_4 (by decide) ?_
  refine lv_istore (lv' := [(4, .int 0), (3, .int 0), (2, .int num), (0, .ref (ad n)), (1, .int num)]) hx hb dX0_tieKnots_5 hl (by decide) rfl (fun ls hl => ?_)
  have lp_7 : ∀ (N : Nat) (k : Nat) (hk : k ≤ 6), 6 - k < N → ∀ (g_1 : Nat → va_E) (H : Heap) (locs : List Loc) (ls : Array Slot), zP D K ad g_1 (zA K ad s.heap.size) H → va_S (zA K ad s.heap.size) s.heap H locs → isC cy K ad g_1 n (tK kn lo num k) (tL kn lo num k) pa pc hu sl → zFr (zRg n (n + 4)) g g_1 → lv_has ls 7 [(0, .ref (ad n)), (2, .int (lrest num k)), (3, .int (lcar kn lo num k)), (4, .int (nI k))] → W p l e ({ frames := 2, cells := 0, slots := 0, locals := 43 } : Room) s m [.ref (ad n), .int num].toArray below meth c H locs 0 0 (MQ below (va_Qv (fun g1 => isC cy K ad g1 n (tK kn lo num 6) (tL kn lo num 6) pa pc hu sl ∧ zFr (zRg n (n + 4)) g g1) (zOut D cy K ad s.heap.size) (zA K ad s.heap.size)) [.ref (ad n), .int num].toArray s 0 0 (zA K ad s.heap.size)) (F0 m 7 ls []) := by
    intro N
    induction N with
    | zero => intro k hk hN; exact absurd hN (Nat.not_lt_zero _)
    | succ N ih_7 =>
      intro k hk hN g_1 H locs ls hP hS hC hFr hl
      refine lv_iload hx hb dX0_tieKnots_7 (lv_at hl 3 rfl) ?_
      refine lv_bipush (v := 6) hx hb dX0_tieKnots_9 (by decide) ?_
      refine lv_icmp_ge (tgt := 70) hx hb dX0_tieKnots_11 (by decide) (fun c_11 => ?_) (fun c_11 => ?_)
      · have hk2 : k = 6 := by have := z_ge_t (b := 6) c_11 (by omega) (by omega); omega
        subst hk2
        exact z_vret C0 hP hS hr (⟨hC, hFr⟩) dX0_tieKnots_70
      · have hk2 : k < 6 := z_ge_f (b := 6) c_11 (by omega) (by omega)
        refine lv_iload_n hx hb dX0_tieKnots_14 rfl (lv_at hl 1 rfl) ?_
        refine lv_bipush (v := 10) hx hb dX0_tieKnots_15 (by decide) ?_
        refine lv_irem hx hb dX0_tieKnots_17 (by decide) ?_
        refine lv_iload_n hx hb dX0_tieKnots_18 rfl (lv_at hl 2 rfl) ?_
        refine lv_iadd hx hb dX0_tieKnots_19 ?_
        refine z_topi (y := mK kn lo num k) rfl ?_
        refine lv_istore (lv' := [(5, .int (mK kn lo num k)), (0, .ref (ad n)), (2, .int (lrest num k)), (3, .int (lcar kn lo num k)), (4, .int (nI k))]) hx hb dX0_tieKnots_20 hl (by decide) rfl (fun ls hl => ?_)
        refine lv_aload_n hx hb dX0_tieKnots_22 rfl (lv_at hl 1 rfl) ?_
        refine lv_iload hx hb dX0_tieKnots_23 (lv_at hl 4 rfl) ?_
        refine lv_iload hx hb dX0_tieKnots_25 (lv_at hl 0 rfl) ?_
        refine z_Vi_eq (As := [.int (nI k), .int (mK kn lo num k)]) (rest := []) C0 hP hS hl.1 (m_X0_loopsFor l _ hC hk2) lk_X0_59 hC.n0 hC.o rfl rfl (Nat.le_of_ble_eq_true rfl) ⟨Nat.le_of_ble_eq_true rfl, Nat.le_of_ble_eq_true rfl⟩ rfl rfl ⟨Nat.zero_le _, Nat.zero_le _⟩ dX0_tieKnots_27 (fun H locs hP hS => ?_)
        refine z_topi (y := mL kn lo num k) (by rw [opn_t, mL]) ?_
        refine lv_istore (lv' := [(6, .int (mL kn lo num k)), (5, .int (mK kn lo num k)), (0, .ref (ad n)), (2, .int (lrest num k)), (3, .int (lcar kn lo num k)), (4, .int (nI k))]) hx hb dX0_tieKnots_30 hl (by decide) rfl (fun ls hl => ?_)
        refine lv_aload_n hx hb dX0_tieKnots_32 rfl (lv_at hl 2 rfl) ?_
        refine z_get C0 hP hC.n0 hC.o fd_X0_9 rfl dX0_tieKnots_33 ?_
        refine lv_iload hx hb dX0_tieKnots_36 (lv_at hl 5 rfl) ?_
        refine lv_dup2_11 hx hb dX0_tieKnots_38 rfl rfl ?_
        refine z_iald C0 hP hC.n1 hC.a_kn (zIx_nI (by omega) (by decide)) dX0_tieKnots_39 ?_
        refine lv_iload hx hb dX0_tieKnots_40 (lv_at hl 1 rfl) ?_
        refine lv_iadd hx hb dX0_tieKnots_42 ?_
        refine zp_C_kn C0 hP hS hC hFr (by simp only [zOne, zRg]; omega) (zIx_nI (by omega) (by decide)) dX0_tieKnots_43 (fun g_2 H locs hP hS hC hFr hF1 => ?_)
        refine lv_aload_n hx hb dX0_tieKnots_44 rfl (lv_at hl 2 rfl) ?_
        refine z_get C0 hP hC.n0 hC.o fd_X0_15 rfl dX0_tieKnots_45 ?_
        refine lv_iload hx hb dX0_tieKnots_48 (lv_at hl 5 rfl) ?_
        refine lv_dup2_11 hx hb dX0_tieKnots_50 rfl rfl ?_
        refine z_iald C0 hP hC.n2 hC.a_lo (zIx_nI (by omega) (by decide)) dX0_tieKnots_51 ?_
        refine lv_iload hx hb dX0_tieKnots_52 (lv_at hl 0 rfl) ?_
        refine lv_iadd hx hb dX0_tieKnots_54 ?_
        refine zp_C_lo C0 hP hS hC hFr (by simp only [zOne, zRg]; omega) (zIx_nI (by omega) (by decide)) dX0_tieKnots_55 (fun g_3 H locs hP hS hC hFr hF1 => ?_)
        rw [tK_up, tL_up] at hC
        refine lv_iload_n hx hb dX0_tieKnots_56 rfl (lv_at hl 3 rfl) ?_
        refine lv_bipush (v := 10) hx hb dX0_tieKnots_57 (by decide) ?_
        refine lv_idiv hx hb dX0_tieKnots_59 (by decide) ?_
        refine lv_istore_n (lv' := [(2, .int ((lrest num k) / 10)), (6, .int (mL kn lo num k)), (5, .int (mK kn lo num k)), (0, .ref (ad n)), (3, .int (lcar kn lo num k)), (4, .int (nI k))]) hx hb dX0_tieKnots_60 rfl hl (by decide) rfl (fun ls hl => ?_)
        refine lv_iload hx hb dX0_tieKnots_61 (lv_at hl 1 rfl) ?_
        refine lv_istore_n (lv' := [(3, .int (mL kn lo num k)), (2, .int ((lrest num k) / 10)), (6, .int (mL kn lo num k)), (5, .int (mK kn lo num k)), (0, .ref (ad n)), (4, .int (nI k))]) hx hb dX0_tieKnots_63 rfl hl (by decide) rfl (fun ls hl => ?_)
        refine lv_iinc (v := nI (k + 1)) (lv' := [(4, .int (nI (k + 1))), (3, .int (mL kn lo num k)), (2, .int ((lrest num k) / 10)), (6, .int (mL kn lo num k)), (5, .int (mK kn lo num k)), (0, .ref (ad n))]) hx hb dX0_tieKnots_64 hl (k := 5) rfl (z_inc _) (by decide) rfl (fun ls hl => ?_)
        refine lv_goto (tgt := 7) hx hb dX0_tieKnots_67 (by decide) ?_
        exact ih_7 (k + 1) hk2 (by omega) _ _ _ _ hP hS hC hFr (lv_sub hl [5, 2, 1, 0] rfl)
  have hC : isC cy K ad g n (tK kn lo num 0) (tL kn lo num 0) pa pc hu sl := by rw [tK_0, tL_0]; exact hC
  exact lp_7 _ 0 (Nat.zero_le _) (Nat.lt_succ_self _) _ _ _ _ hP hS hC hFr (lv_sub hl [3, 2, 1, 0] rfl)
set_option maxHeartbeats 4000000 in
set_option maxRecDepth 100000 in
theorem m_X0_tieAsPart (l : Launch) {D : va_G} {cy : Nat → ClassId} {K : Nat} {ad : Nat → Nat} {g : Nat → va_E} (sz : Nat) {n : Nat} {kn lo pa : Nat → Int32} {hu sl : Int32} {mm : Nat} {num : Int32} (hC : isC cy K ad g n kn lo pa (nI mm) hu sl) (hm : mm < 16) : Met l yX0_tieAsPart (zs yX0_tieAsPart cX0_tieAsPart 2 none) ({ frames := 3, cells := 0, slots := 0, locals := 69 } : Room) (va_Pc [.ref (ad n), .int num] (zIn D cy K ad g sz)) (va_Qv (fun g1 => isC cy K ad g1 n (tK kn lo num 6) (tL kn lo num 6) (upd pa mm num) (nI (mm + 1)) hu sl ∧ zFr (zRg n (n + 4)) g g1) (zOut D cy K ad sz) (zA K ad sz)) 0 0 (zA K ad sz) := by
  refine z_met (by decide) (Nat.le_of_ble_eq_true rfl) (fun p e s m below meth c ls hsz hl C0 hr hnm hP hS => ?_)
  subst hsz
  have hl : lv_has ls 2 [(0, .ref (ad n)), (1, .int num)] := hl
  have hx := C0.1; have hb := C0.2.1; have hown := C0.2.2.2.1; have hts := C0.2.2.2.2.1
  have hFr : zFr (zRg n (n + 4)) g g := zFr.rf
  refine lv_aload_n hx hb dX0_tieAsPart_0 rfl (lv_at hl 0 rfl) ?_
  refine z_get C0 hP hC.n0 hC.o fd_X0_21 rfl dX0_tieAsPart_1 ?_
  refine lv_bipush (v := 16) hx hb dX0_tieAsPart_4 (by decide) ?_
  refine lv_icmp_ge (tgt := 34) hx hb dX0_tieAsPart_6 (by decide) (fun c_6 => absurd (z_ge_t (b := 16) c_6 (by omega) (by omega)) (by omega)) (fun c_6 => ?_)
  refine lv_aload_n hx hb dX0_tieAsPart_9 rfl (lv_at hl 0 rfl) ?_
  refine z_get C0 hP hC.n0 hC.o fd_X0_18 rfl dX0_tieAsPart_10 ?_
  refine lv_aload_n hx hb dX0_tieAsPart_13 rfl (lv_at hl 0 rfl) ?_
  refine z_get C0 hP hC.n0 hC.o fd_X0_21 rfl dX0_tieAsPart_14 ?_
  refine lv_iload_n hx hb dX0_tieAsPart_17 rfl (lv_at hl 1 rfl) ?_
  refine zp_C_pa C0 hP hS hC hFr (by simp only [zOne, zRg]; omega) (zIx_nI (by omega) (by decide)) dX0_tieAsPart_18 (fun g_1 H locs hP hS hC hFr hF1 => ?_)
  refine lv_aload_n hx hb dX0_tieAsPart_19 rfl (lv_at hl 0 rfl) ?_
  refine lv_dup hx hb dX0_tieAsPart_20 rfl ?_
  refine z_get C0 hP hC.n0 hC.o fd_X0_21 rfl dX0_tieAsPart_21 ?_
  refine lv_iconst (v := 1) hx hb dX0_tieAsPart_24 (by decide) ?_
  refine lv_iadd hx hb dX0_tieAsPart_25 ?_
  refine z_topi (y := nI (mm + 1)) (nI_1 _) ?_
  refine zp_C_pc C0 hP hS hC hFr (by simp only [zOne, zRg]; omega) fp_X0_21 dX0_tieAsPart_26 (fun g_2 H locs hP hS hC hFr hF1 => ?_)
  refine lv_aload_n hx hb dX0_tieAsPart_29 rfl (lv_at hl 0 rfl) ?_
  refine lv_iload_n hx hb dX0_tieAsPart_30 rfl (lv_at hl 1 rfl) ?_
  refine z_Vv_mo (As := [.int num]) (rest := []) C0 hP hS hl.1 (m_X0_tieKnots l _ hC) lk_X0_69 hC.n0 hC.o rfl rfl (Nat.le_of_ble_eq_true rfl) ⟨Nat.le_of_ble_eq_true rfl, Nat.le_of_ble_eq_true rfl⟩ rfl rfl ⟨Nat.zero_le _, Nat.zero_le _⟩ dX0_tieAsPart_31 (fun g_3 H locs hP hS hp => ?_)
  obtain ⟨hC, hF1⟩ := hp
  have hFr := hFr.tr (hF1.mono (by intro x9 hx9; simp only [zOne, zRg] at hx9 ⊢; omega))
  exact z_vret C0 hP hS hr (⟨hC, hFr⟩) dX0_tieAsPart_34
set_option maxHeartbeats 4000000 in
set_option maxRecDepth 100000 in
theorem m_X0_becomeNew (l : Launch) {D : va_G} {cy : Nat → ClassId} {K : Nat} {ad : Nat → Nat} {g : Nat → va_E} (sz : Nat) {n : Nat} {kn lo pa : Nat → Int32} {pc hu sl : Int32} (hC : isC cy K ad g n kn lo pa pc hu sl) : Met l yX0_becomeNew (zs yX0_becomeNew cX0_becomeNew 2 none) ({ frames := 0, cells := 0, slots := 0, locals := 0 } : Room) (va_Pc [.ref (ad n)] (zIn D cy K ad g sz)) (va_Qv (fun g1 => isC cy K ad g1 n (zK kn 6) (zK lo 6) pa (nI 0) hu 0 ∧ zFr (zRg n (n + 4)) g g1) (zOut D cy K ad sz) (zA K ad sz)) 0 0 (zA K ad sz) := by
  refine z_met (by decide) (Nat.le_of_ble_eq_true rfl) (fun p e s m below meth c ls hsz hl C0 hr hnm hP hS => ?_)
  subst hsz
  have hl : lv_has ls 2 [(0, .ref (ad n))] := hl
  have hx := C0.1; have hb := C0.2.1; have hown := C0.2.2.2.1; have hts := C0.2.2.2.2.1
  have hFr : zFr (zRg n (n + 4)) g g := zFr.rf
  refine lv_iconst (v := 0) hx hb dX0_becomeNew_0 (by decide) ?_
  refine lv_istore_n (lv' := [(1, .int 0), (0, .ref (ad n))]) hx hb dX0_becomeNew_1 rfl hl (by decide) rfl (fun ls hl => ?_)
  have lp_2 : ∀ (N : Nat) (k : Nat) (hk : k ≤ 6), 6 - k < N → ∀ (g_1 : Nat → va_E) (H : Heap) (locs : List Loc) (ls : Array Slot), zP D K ad g_1 (zA K ad s.heap.size) H → va_S (zA K ad s.heap.size) s.heap H locs → isC cy K ad g_1 n (zK kn k) (zK lo k) pa pc hu sl → zFr (zRg n (n + 4)) g g_1 → lv_has ls 2 [(0, .ref (ad n)), (1, .int (nI k))] → W p l e ({ frames := 0, cells := 0, slots := 0, locals := 0 } : Room) s m [.ref (ad n)].toArray below meth c H locs 0 0 (MQ below (va_Qv (fun g1 => isC cy K ad g1 n (zK kn 6) (zK lo 6) pa (nI 0) hu 0 ∧ zFr (zRg n (n + 4)) g g1) (zOut D cy K ad s.heap.size) (zA K ad s.heap.size)) [.ref (ad n)].toArray s 0 0 (zA K ad s.heap.size)) (F0 m 2 ls []) := by
    intro N
    induction N with
    | zero => intro k hk hN; exact absurd hN (Nat.not_lt_zero _)
    | succ N ih_2 =>
      intro k hk hN g_1 H locs ls hP hS hC hFr hl
      refine lv_iload_n hx hb dX0_becomeNew_2 rfl (lv_at hl 1 rfl) ?_
      refine lv_bipush (v := 6) hx hb dX0_becomeNew_3 (by decide) ?_
      refine lv_icmp_ge (tgt := 28) hx hb dX0_becomeNew_5 (by decide) (fun c_5 => ?_) (fun c_5 => ?_)
      · have hk2 : k = 6 := by have := z_ge_t (b := 6) c_5 (by omega) (by omega); omega
        subst hk2
        refine lv_aload_n hx hb dX0_becomeNew_28 rfl (lv_at hl 0 rfl) ?_
        refine lv_iconst (v := (nI 0)) hx hb dX0_becomeNew_29 (by decide) ?_
        refine zp_C_pc C0 hP hS hC hFr (by simp only [zOne, zRg]; omega) fp_X0_21 dX0_becomeNew_30 (fun g_2 H locs hP hS hC hFr hF1 => ?_)
        refine lv_aload_n hx hb dX0_becomeNew_33 rfl (lv_at hl 0 rfl) ?_
        refine lv_iconst (v := 0) hx hb dX0_becomeNew_34 (by decide) ?_
        refine zp_C_sl C0 hP hS hC hFr (by simp only [zOne, zRg]; omega) fp_X0_28 dX0_becomeNew_35 (fun g_3 H locs hP hS hC hFr hF1 => ?_)
        exact z_vret C0 hP hS hr (⟨hC, hFr⟩) dX0_becomeNew_38
      · have hk2 : k < 6 := z_ge_f (b := 6) c_5 (by omega) (by omega)
        refine lv_aload_n hx hb dX0_becomeNew_8 rfl (lv_at hl 0 rfl) ?_
        refine z_get C0 hP hC.n0 hC.o fd_X0_9 rfl dX0_becomeNew_9 ?_
        refine lv_iload_n hx hb dX0_becomeNew_12 rfl (lv_at hl 1 rfl) ?_
        refine lv_iconst (v := 0) hx hb dX0_becomeNew_13 (by decide) ?_
        refine zp_C_kn C0 hP hS hC hFr (by simp only [zOne, zRg]; omega) (zIx_nI (by omega) (by decide)) dX0_becomeNew_14 (fun g_4 H locs hP hS hC hFr hF1 => ?_)
        refine lv_aload_n hx hb dX0_becomeNew_15 rfl (lv_at hl 0 rfl) ?_
        refine z_get C0 hP hC.n0 hC.o fd_X0_15 rfl dX0_becomeNew_16 ?_
        refine lv_iload_n hx hb dX0_becomeNew_19 rfl (lv_at hl 1 rfl) ?_
        refine lv_iconst (v := 0) hx hb dX0_becomeNew_20 (by decide) ?_
        refine zp_C_lo C0 hP hS hC hFr (by simp only [zOne, zRg]; omega) (zIx_nI (by omega) (by decide)) dX0_becomeNew_21 (fun g_5 H locs hP hS hC hFr hF1 => ?_)
        rw [zK_up, zK_up] at hC
        refine lv_iinc (v := nI (k + 1)) (lv' := [(1, .int (nI (k + 1))), (0, .ref (ad n))]) hx hb dX0_becomeNew_22 hl (k := 1) rfl (z_inc _) (by decide) rfl (fun ls hl => ?_)
        refine lv_goto (tgt := 2) hx hb dX0_becomeNew_25 (by decide) ?_
        exact ih_2 (k + 1) hk2 (by omega) _ _ _ _ hP hS hC hFr (lv_sub hl [1, 0] rfl)
  have hC : isC cy K ad g n (zK kn 0) (zK lo 0) pa pc hu sl := by rw [zK_0, zK_0]; exact hC
  exact lp_2 _ 0 (Nat.zero_le _) (Nat.lt_succ_self _) _ _ _ _ hP hS hC hFr (lv_sub hl [1, 0] rfl)
