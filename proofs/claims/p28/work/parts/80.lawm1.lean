/-! ===== the law's own methods ===== -/
set_option maxHeartbeats 4000000 in
set_option maxRecDepth 100000 in
theorem m_L_low (l : Launch) {D : va_G} {cy : Nat → ClassId} {K : Nat} {ad : Nat → Nat} {g : Nat → va_E} (sz : Nat) {v : Int32} {nz : Nat} (hn0 : 0 < nz) (hn1 : nz < 2 ^ 31) : Met l yL_low (zs yL_low cL_low 2 (some .int)) ({ frames := 0, cells := 0, slots := 0, locals := 0 } : Room) (va_Pc [.int v, .int (nI nz)] (zIn D cy K ad g sz)) (va_Qi (fun r g1 => g1 = g ∧ r = lowF v nz) (zOut D cy K ad sz) (zA K ad sz)) 0 0 (zA K ad sz) := by
  refine z_met (by decide) (Nat.le_of_ble_eq_true rfl) (fun p e s m below meth c ls hsz hl C0 hr hnm hP hS => ?_)
  subst hsz
  have hl : lv_has ls 2 [(0, .int v), (1, .int (nI nz))] := hl
  have hx := C0.1; have hb := C0.2.1; have hown := C0.2.2.2.1; have hts := C0.2.2.2.2.1
  refine lv_iload_n hx hb dL_low_0 rfl (lv_at hl 0 rfl) ?_
  refine lv_ldc hx hb hown (hts _ q354) dL_low_1 ?_
  refine lv_iand hx hb dL_low_3 ?_
  refine lv_iload_n hx hb dL_low_4 rfl (lv_at hl 1 rfl) ?_
  refine lv_irem hx hb dL_low_5 (nI_ne0 hn0 hn1) ?_
  exact z_iret C0 hP hS hr (⟨rfl, rfl⟩) dL_low_6
set_option maxHeartbeats 4000000 in
set_option maxRecDepth 100000 in
theorem m_L_number (l : Launch) {D : va_G} {cy : Nat → ClassId} {K : Nat} {ad : Nat → Nat} {g : Nat → va_E} (sz : Nat) {xz : Int32}  : Met l yL_number (zs yL_number cL_number 4 (some .int)) ({ frames := 1, cells := 0, slots := 0, locals := 21 } : Room) (va_Pc [.int xz] (zIn D cy K ad g sz)) (va_Qi (fun r g1 => g1 = g ∧ ∃ vz, 1 ≤ vz ∧ vz ≤ 999999 ∧ r = nI vz) (zOut D cy K ad sz) (zA K ad sz)) 0 0 (zA K ad sz) := by
  refine z_met (by decide) (Nat.le_of_ble_eq_true rfl) (fun p e s m below meth c ls hsz hl C0 hr hnm hP hS => ?_)
  subst hsz
  have hl : lv_has ls 4 [(0, .int xz)] := hl
  have hx := C0.1; have hb := C0.2.1; have hown := C0.2.2.2.1; have hts := C0.2.2.2.2.1
  refine lv_iconst (v := 1) hx hb dL_number_0 (by decide) ?_
  refine lv_iload_n hx hb dL_number_1 rfl (lv_at hl 0 rfl) ?_
  refine lv_bipush (v := (nI 6)) hx hb dL_number_2 (by decide) ?_
  refine z_Si_eq (As := [.int xz, .int (nI 6)]) (rest := [.int 1]) C0 hP hS hl.1 (m_L_low l _ (by decide) (by decide)) lk_L_9 rfl rfl (Nat.le_of_ble_eq_true rfl) ⟨Nat.le_of_ble_eq_true rfl, Nat.le_of_ble_eq_true rfl⟩ rfl rfl ⟨Nat.zero_le _, Nat.zero_le _⟩ dL_number_4 (fun H locs hP hS => ?_)
  refine lv_iadd hx hb dL_number_7 ?_
  obtain ⟨d7, hd7, ed7⟩ := low1 xz (n := 6) (by decide) (by decide)
  refine z_topi (y := nI (d7 + 1)) ed7 ?_
  refine lv_istore_n (lv' := [(1, .int (nI (d7 + 1))), (0, .int xz)]) hx hb dL_number_8 rfl hl (by decide) rfl (fun ls hl => ?_)
  refine lv_iconst (v := (nI 0)) hx hb dL_number_9 (by decide) ?_
  refine lv_istore_n (lv' := [(2, .int (nI 0)), (1, .int (nI (d7 + 1))), (0, .int xz)]) hx hb dL_number_10 rfl hl (by decide) rfl (fun ls hl => ?_)
  refine lv_iconst (v := (nI 0)) hx hb dL_number_11 (by decide) ?_
  refine lv_istore_n (lv' := [(3, .int (nI 0)), (2, .int (nI 0)), (1, .int (nI (d7 + 1))), (0, .int xz)]) hx hb dL_number_12 rfl hl (by decide) rfl (fun ls hl => ?_)
  have lp_13 : ∀ (N : Nat) (kz vz : Nat) (hk : kz ≤ d7 + 1) (hv : vz < 10 ^ kz), d7 + 1 - kz < N → ∀ (H : Heap) (locs : List Loc) (ls : Array Slot), zP D K ad g (zA K ad s.heap.size) H → va_S (zA K ad s.heap.size) s.heap H locs → lv_has ls 4 [(0, .int xz), (1, .int (nI (d7 + 1))), (2, .int (nI vz)), (3, .int (nI kz))] → W p l e ({ frames := 1, cells := 0, slots := 0, locals := 21 } : Room) s m [.int xz].toArray below meth c H locs 0 0 (MQ below (va_Qi (fun r g1 => g1 = g ∧ ∃ vz, 1 ≤ vz ∧ vz ≤ 999999 ∧ r = nI vz) (zOut D cy K ad s.heap.size) (zA K ad s.heap.size)) [.int xz].toArray s 0 0 (zA K ad s.heap.size)) (F0 m 13 ls []) := by
    intro N
    induction N with
    | zero => intro kz vz hk hv hN; exact absurd hN (Nat.not_lt_zero _)
    | succ N ih_13 =>
      intro kz vz hk hv hN H locs ls hP hS  hl
      refine lv_iload_n hx hb dL_number_13 rfl (lv_at hl 3 rfl) ?_
      refine lv_iload_n hx hb dL_number_14 rfl (lv_at hl 1 rfl) ?_
      refine lv_icmp_ge (tgt := 58) hx hb dL_number_15 (by decide) (fun c_15 => ?_) (fun c_15 => ?_)
      · refine lv_iload_n hx hb dL_number_58 rfl (lv_at hl 2 rfl) ?_
        refine lv_if_ne (tgt := 66) hx hb dL_number_59 (by decide) (fun c_59 => ?_) (fun c_59 => ?_)
        · refine lv_iload_n hx hb dL_number_66 rfl (lv_at hl 2 rfl) ?_
          exact z_iret C0 hP hS hr (⟨rfl, ⟨vz, Nat.pos_of_ne_zero (fun q => c_59 (by rw [q]; rfl)), num_end hv (by omega), rfl⟩⟩) dL_number_67
        · refine lv_iconst (v := 1) hx hb dL_number_62 (by decide) ?_
          refine lv_goto (tgt := 67) hx hb dL_number_63 (by decide) ?_
          exact z_iret C0 hP hS hr (⟨rfl, ⟨1, by decide, by decide, rfl⟩⟩) dL_number_67
      · have hk2 : kz < d7 + 1 := z_ge_f c_15 (by omega) (by omega)
        refine lv_bipush (v := 10) hx hb dL_number_18 (by decide) ?_
        refine lv_iload_n hx hb dL_number_20 rfl (lv_at hl 2 rfl) ?_
        refine lv_imul hx hb dL_number_21 ?_
        refine lv_iload_n hx hb dL_number_22 rfl (lv_at hl 0 rfl) ?_
        refine lv_iconst (v := 4) hx hb dL_number_23 (by decide) ?_
        refine lv_iload_n hx hb dL_number_24 rfl (lv_at hl 3 rfl) ?_
        refine lv_iadd hx hb dL_number_25 ?_
        refine lv_ishr hx hb dL_number_26 ?_
        refine lv_iconst (v := 1) hx hb dL_number_27 (by decide) ?_
        refine lv_iand hx hb dL_number_28 ?_
        refine lv_if_ne (tgt := 37) hx hb dL_number_29 (by decide) (fun c_29 => ?_) (fun c_29 => ?_)
        · refine lv_iload_n hx hb dL_number_37 rfl (lv_at hl 0 rfl) ?_
          refine lv_bipush (v := 10) hx hb dL_number_38 (by decide) ?_
          refine lv_iconst (v := 2) hx hb dL_number_40 (by decide) ?_
          refine lv_iload_n hx hb dL_number_41 rfl (lv_at hl 3 rfl) ?_
          refine lv_imul hx hb dL_number_42 ?_
          refine lv_iadd hx hb dL_number_43 ?_
          refine lv_ishr hx hb dL_number_44 ?_
          refine lv_bipush (v := (nI 10)) hx hb dL_number_45 (by decide) ?_
          refine z_Si_eq (As := [.int (xz >>> ((10 + (2 * (nI kz))) &&& 31)), .int (nI 10)]) (rest := [.int (10 * (nI vz))]) C0 hP hS hl.1 (m_L_low l _ (by decide) (by decide)) lk_L_9 rfl rfl (Nat.le_of_ble_eq_true rfl) ⟨Nat.le_of_ble_eq_true rfl, Nat.le_of_ble_eq_true rfl⟩ rfl rfl ⟨Nat.zero_le _, Nat.zero_le _⟩ dL_number_47 (fun H locs hP hS => ?_)
          obtain ⟨e7, he7, ee7⟩ := lowF_rng (xz >>> ((10 + 2 * nI kz) &&& 31)) (n := 10) (by decide) (by decide)
          refine lv_iadd hx hb dL_number_50 ?_
          refine z_topi (y := nI (10 * vz + e7)) (by rw [ee7]; exact (num_dg hv he7).1) ?_
          refine lv_istore_n (lv' := [(2, .int (nI (10 * vz + e7))), (0, .int xz), (1, .int (nI (d7 + 1))), (3, .int (nI kz))]) hx hb dL_number_51 rfl hl (by decide) rfl (fun ls hl => ?_)
          refine lv_iinc (v := nI (kz + 1)) (lv' := [(3, .int (nI (kz + 1))), (2, .int (nI (10 * vz + e7))), (0, .int xz), (1, .int (nI (d7 + 1)))]) hx hb dL_number_52 hl (k := 3) rfl (z_inc _) (by decide) rfl (fun ls hl => ?_)
          refine lv_goto (tgt := 13) hx hb dL_number_55 (by decide) ?_
          exact ih_13 (kz + 1) (10 * vz + e7) (by omega) ((num_dg hv he7).2) (by omega) _ _ _ hP hS  (lv_sub hl [2, 3, 1, 0] rfl)
        · refine lv_bipush (v := (nI 9)) hx hb dL_number_32 (by decide) ?_
          refine lv_goto (tgt := 50) hx hb dL_number_34 (by decide) ?_
          refine lv_iadd hx hb dL_number_50 ?_
          refine z_topi (y := nI (10 * vz + 9)) ((num_dg hv (by decide)).1) ?_
          refine lv_istore_n (lv' := [(2, .int (nI (10 * vz + 9))), (0, .int xz), (1, .int (nI (d7 + 1))), (3, .int (nI kz))]) hx hb dL_number_51 rfl hl (by decide) rfl (fun ls hl => ?_)
          refine lv_iinc (v := nI (kz + 1)) (lv' := [(3, .int (nI (kz + 1))), (2, .int (nI (10 * vz + 9))), (0, .int xz), (1, .int (nI (d7 + 1)))]) hx hb dL_number_52 hl (k := 3) rfl (z_inc _) (by decide) rfl (fun ls hl => ?_)
          refine lv_goto (tgt := 13) hx hb dL_number_55 (by decide) ?_
          exact ih_13 (kz + 1) (10 * vz + 9) (by omega) ((num_dg hv (by decide)).2) (by omega) _ _ _ hP hS  (lv_sub hl [2, 3, 1, 0] rfl)
  exact lp_13 _ 0 0 (Nat.zero_le _) (by decide) (Nat.lt_succ_self _) _ _ _ hP hS  (lv_sub hl [3, 2, 1, 0] rfl)
set_option maxHeartbeats 4000000 in
set_option maxRecDepth 100000 in
theorem m_L_bits (l : Launch) {D : va_G} {cy : Nat → ClassId} {K : Nat} {ad : Nat → Nat} {g : Nat → va_E} (sz : Nat) {zm : Int32}  : Met l yL_bits (zs yL_bits cL_bits 3 (some .int)) ({ frames := 0, cells := 0, slots := 0, locals := 0 } : Room) (va_Pc [.int zm] (zIn D cy K ad g sz)) (va_Qi (fun r g1 => g1 = g ∧ r = mnF zm) (zOut D cy K ad sz) (zA K ad sz)) 0 0 (zA K ad sz) := by
  refine z_met (by decide) (Nat.le_of_ble_eq_true rfl) (fun p e s m below meth c ls hsz hl C0 hr hnm hP hS => ?_)
  subst hsz
  have hl : lv_has ls 3 [(0, .int zm)] := hl
  have hx := C0.1; have hb := C0.2.1; have hown := C0.2.2.2.1; have hts := C0.2.2.2.2.1
  refine lv_iconst (v := 0) hx hb dL_bits_0 (by decide) ?_
  refine z_topi (y := sumN (fun c => bitI zm (nI c)) 0) rfl ?_
  refine lv_istore_n (lv' := [(1, .int (sumN (fun c => bitI zm (nI c)) 0)), (0, .int zm)]) hx hb dL_bits_1 rfl hl (by decide) rfl (fun ls hl => ?_)
  refine lv_iconst (v := (nI 0)) hx hb dL_bits_2 (by decide) ?_
  refine lv_istore_n (lv' := [(2, .int (nI 0)), (1, .int (sumN (fun c => bitI zm (nI c)) 0)), (0, .int zm)]) hx hb dL_bits_3 rfl hl (by decide) rfl (fun ls hl => ?_)
  have lp_4 : ∀ (N : Nat) (kz : Nat) (hk : kz ≤ 7), 7 - kz < N → ∀ (H : Heap) (locs : List Loc) (ls : Array Slot), zP D K ad g (zA K ad s.heap.size) H → va_S (zA K ad s.heap.size) s.heap H locs → lv_has ls 3 [(0, .int zm), (1, .int (sumN (fun c => bitI zm (nI c)) kz)), (2, .int (nI kz))] → W p l e ({ frames := 0, cells := 0, slots := 0, locals := 0 } : Room) s m [.int zm].toArray below meth c H locs 0 0 (MQ below (va_Qi (fun r g1 => g1 = g ∧ r = mnF zm) (zOut D cy K ad s.heap.size) (zA K ad s.heap.size)) [.int zm].toArray s 0 0 (zA K ad s.heap.size)) (F0 m 4 ls []) := by
    intro N
    induction N with
    | zero => intro kz hk hN; exact absurd hN (Nat.not_lt_zero _)
    | succ N ih_4 =>
      intro kz hk hN H locs ls hP hS  hl
      refine lv_iload_n hx hb dL_bits_4 rfl (lv_at hl 2 rfl) ?_
      refine lv_bipush (v := 7) hx hb dL_bits_5 (by decide) ?_
      refine lv_icmp_ge (tgt := 24) hx hb dL_bits_7 (by decide) (fun c_7 => ?_) (fun c_7 => ?_)
      · have hk2 : kz = 7 := by have := z_ge_t (b := 7) c_7 (by omega) (by omega); omega
        subst hk2
        refine lv_iload_n hx hb dL_bits_24 rfl (lv_at hl 1 rfl) ?_
        exact z_iret C0 hP hS hr (⟨rfl, rfl⟩) dL_bits_25
      · have hk2 : kz < 7 := z_ge_f (b := 7) c_7 (by omega) (by omega)
        refine lv_iload_n hx hb dL_bits_10 rfl (lv_at hl 1 rfl) ?_
        refine lv_iload_n hx hb dL_bits_11 rfl (lv_at hl 0 rfl) ?_
        refine lv_iload_n hx hb dL_bits_12 rfl (lv_at hl 2 rfl) ?_
        refine lv_ishr hx hb dL_bits_13 ?_
        refine lv_iconst (v := 1) hx hb dL_bits_14 (by decide) ?_
        refine lv_iand hx hb dL_bits_15 ?_
        refine lv_iadd hx hb dL_bits_16 ?_
        refine z_topi (y := sumN (fun c => bitI zm (nI c)) (kz + 1)) rfl ?_
        refine lv_istore_n (lv' := [(1, .int (sumN (fun c => bitI zm (nI c)) (kz + 1))), (0, .int zm), (2, .int (nI kz))]) hx hb dL_bits_17 rfl hl (by decide) rfl (fun ls hl => ?_)
        refine lv_iinc (v := nI (kz + 1)) (lv' := [(2, .int (nI (kz + 1))), (1, .int (sumN (fun c => bitI zm (nI c)) (kz + 1))), (0, .int zm)]) hx hb dL_bits_18 hl (k := 2) rfl (z_inc _) (by decide) rfl (fun ls hl => ?_)
        refine lv_goto (tgt := 4) hx hb dL_bits_21 (by decide) ?_
        exact ih_4 (kz + 1) (by omega) (by omega) _ _ _ hP hS  (lv_sub hl [2, 1, 0] rfl)
  exact lp_4 _ 0 (by decide) (Nat.lt_succ_self _) _ _ _ hP hS  (lv_sub hl [2, 1, 0] rfl)
set_option maxHeartbeats 4000000 in
set_option maxRecDepth 100000 in
theorem m_L_isCord (l : Launch) {D : va_G} {cy : Nat → ClassId} {K : Nat} {ad : Nat → Nat} {g : Nat → va_E} (sz : Nat) {st : Nat → Int32} {sv : Nat → Nat → Int32} {nx sz2 : Nat} {ns : Nat → Option Nat} {ss : Nat → Nat → Int32} {bu : Nat → Int32} {ln : Nat} {tz : Nat} {iz : Nat} (hTT : isT cy K ad g st sv nx sz2 ns ss bu ln) (hi : iz < 7) (hI : pI tz st) : Met l yL_isCord (zs yL_isCord cL_isCord 13 (some .boolean)) ({ frames := 5, cells := 0, slots := 0, locals := 109 } : Room) (va_Pc [.ref (ad 0), .int (nI iz)] (zIn D cy K ad g sz)) (va_Qi (fun r g1 => g1 = g ∧ r = 1) (zOut D cy K ad sz) (zA K ad sz)) 0 0 (zA K ad sz) := by
  refine z_met (by decide) (Nat.le_of_ble_eq_true rfl) (fun p e s m below meth c ls hsz hl C0 hr hnm hP hS => ?_)
  subst hsz
  have hl : lv_has ls 13 [(0, .ref (ad 0)), (1, .int (nI iz))] := hl
  have hx := C0.1; have hb := C0.2.1; have hown := C0.2.2.2.1; have hts := C0.2.2.2.2.1
  refine lv_iconst (v := 0) hx hb dL_isCord_0 (by decide) ?_
  refine z_topi (y := tdP (fK st iz) (fL st iz) 0) rfl ?_
  refine lv_istore_n (lv' := [(2, .int (tdP (fK st iz) (fL st iz) 0)), (0, .ref (ad 0)), (1, .int (nI iz))]) hx hb dL_isCord_1 rfl hl (by decide) rfl (fun ls hl => ?_)
  refine lv_iconst (v := 1) hx hb dL_isCord_2 (by decide) ?_
  refine z_topi (y := pwN 0) rfl ?_
  refine lv_istore_n (lv' := [(3, .int (pwN 0)), (2, .int (tdP (fK st iz) (fL st iz) 0)), (0, .ref (ad 0)), (1, .int (nI iz))]) hx hb dL_isCord_3 rfl hl (by decide) rfl (fun ls hl => ?_)
  refine lv_iconst (v := 0) hx hb dL_isCord_4 (by decide) ?_
  refine z_topi (y := sumN (fun p => fK st iz p + fL st iz p) 0) rfl ?_
  refine lv_istore (lv' := [(4, .int (sumN (fun p => fK st iz p + fL st iz p) 0)), (3, .int (pwN 0)), (2, .int (tdP (fK st iz) (fL st iz) 0)), (0, .ref (ad 0)), (1, .int (nI iz))]) hx hb dL_isCord_5 hl (by decide) rfl (fun ls hl => ?_)
  refine lv_iconst (v := 0) hx hb dL_isCord_7 (by decide) ?_
  refine z_topi (y := sumN (fL st iz) 0) rfl ?_
  refine lv_istore (lv' := [(5, .int (sumN (fL st iz) 0)), (4, .int (sumN (fun p => fK st iz p + fL st iz p) 0)), (3, .int (pwN 0)), (2, .int (tdP (fK st iz) (fL st iz) 0)), (0, .ref (ad 0)), (1, .int (nI iz))]) hx hb dL_isCord_8 hl (by decide) rfl (fun ls hl => ?_)
  refine lv_iconst (v := 0) hx hb dL_isCord_10 (by decide) ?_
  refine z_topi (y := sumN (fP st iz) 0) rfl ?_
  refine lv_istore (lv' := [(6, .int (sumN (fP st iz) 0)), (5, .int (sumN (fL st iz) 0)), (4, .int (sumN (fun p => fK st iz p + fL st iz p) 0)), (3, .int (pwN 0)), (2, .int (tdP (fK st iz) (fL st iz) 0)), (0, .ref (ad 0)), (1, .int (nI iz))]) hx hb dL_isCord_11 hl (by decide) rfl (fun ls hl => ?_)
  refine lv_iconst (v := 1) hx hb dL_isCord_13 (by decide) ?_
  refine lv_istore (lv' := [(7, .int 1), (6, .int (sumN (fP st iz) 0)), (5, .int (sumN (fL st iz) 0)), (4, .int (sumN (fun p => fK st iz p + fL st iz p) 0)), (3, .int (pwN 0)), (2, .int (tdP (fK st iz) (fL st iz) 0)), (0, .ref (ad 0)), (1, .int (nI iz))]) hx hb dL_isCord_14 hl (by decide) rfl (fun ls hl => ?_)
  refine lv_iconst (v := (nI 0)) hx hb dL_isCord_16 (by decide) ?_
  refine lv_istore (lv' := [(8, .int (nI 0)), (7, .int 1), (6, .int (sumN (fP st iz) 0)), (5, .int (sumN (fL st iz) 0)), (4, .int (sumN (fun p => fK st iz p + fL st iz p) 0)), (3, .int (pwN 0)), (2, .int (tdP (fK st iz) (fL st iz) 0)), (0, .ref (ad 0)), (1, .int (nI iz))]) hx hb dL_isCord_17 hl (by decide) rfl (fun ls hl => ?_)
  have lp_19 : ∀ (N : Nat) (jz : Nat) (hj : jz ≤ 6), 6 - jz < N → ∀ (H : Heap) (locs : List Loc) (ls : Array Slot), zP D K ad g (zA K ad s.heap.size) H → va_S (zA K ad s.heap.size) s.heap H locs → lv_has ls 13 [(0, .ref (ad 0)), (1, .int (nI iz)), (2, .int (tdP (fK st iz) (fL st iz) jz)), (3, .int (pwN jz)), (4, .int (sumN (fun p => fK st iz p + fL st iz p) jz)), (5, .int (sumN (fL st iz) jz)), (6, .int (sumN (fP st iz) 0)), (7, .int 1), (8, .int (nI jz))] → W p l e ({ frames := 5, cells := 0, slots := 0, locals := 109 } : Room) s m [.ref (ad 0), .int (nI iz)].toArray below meth c H locs 0 0 (MQ below (va_Qi (fun r g1 => g1 = g ∧ r = 1) (zOut D cy K ad s.heap.size) (zA K ad s.heap.size)) [.ref (ad 0), .int (nI iz)].toArray s 0 0 (zA K ad s.heap.size)) (F0 m 19 ls []) := by
    intro N
    induction N with
    | zero => intro jz hj hN; exact absurd hN (Nat.not_lt_zero _)
    | succ N ih_19 =>
      intro jz hj hN H locs ls hP hS  hl
      refine lv_iload hx hb dL_isCord_19 (lv_at hl 8 rfl) ?_
      refine lv_bipush (v := 6) hx hb dL_isCord_21 (by decide) ?_
      refine lv_icmp_ge (tgt := 164) hx hb dL_isCord_23 (by decide) (fun c_23 => ?_) (fun c_23 => ?_)
      · have hk2 : jz = 6 := by have := z_ge_t (b := 6) c_23 (by omega) (by omega); omega
        subst hk2
        refine lv_iconst (v := (nI 0)) hx hb dL_isCord_164 (by decide) ?_
        refine lv_istore (lv' := [(8, .int (nI 0)), (0, .ref (ad 0)), (1, .int (nI iz)), (2, .int (tdP (fK st iz) (fL st iz) 6)), (3, .int (pwN 6)), (4, .int (sumN (fun p => fK st iz p + fL st iz p) 6)), (5, .int (sumN (fL st iz) 6)), (6, .int (sumN (fP st iz) 0)), (7, .int 1)]) hx hb dL_isCord_165 hl (by decide) rfl (fun ls hl => ?_)
        have lp_167 : ∀ (N : Nat) (kz : Nat) (hk : kz ≤ cm st iz), cm st iz - kz < N → ∀ (H : Heap) (locs : List Loc) (ls : Array Slot), zP D K ad g (zA K ad s.heap.size) H → va_S (zA K ad s.heap.size) s.heap H locs → lv_has ls 13 [(0, .ref (ad 0)), (1, .int (nI iz)), (2, .int (tdP (fK st iz) (fL st iz) 6)), (4, .int (sumN (fun p => fK st iz p + fL st iz p) 6)), (5, .int (sumN (fL st iz) 6)), (6, .int (sumN (fP st iz) kz)), (7, .int 1), (8, .int (nI kz))] → W p l e ({ frames := 5, cells := 0, slots := 0, locals := 109 } : Room) s m [.ref (ad 0), .int (nI iz)].toArray below meth c H locs 0 0 (MQ below (va_Qi (fun r g1 => g1 = g ∧ r = 1) (zOut D cy K ad s.heap.size) (zA K ad s.heap.size)) [.ref (ad 0), .int (nI iz)].toArray s 0 0 (zA K ad s.heap.size)) (F0 m 167 ls []) := by
          intro N
          induction N with
          | zero => intro kz hk hN; exact absurd hN (Nat.not_lt_zero _)
          | succ N ih_167 =>
            intro kz hk hN H locs ls hP hS  hl
            refine lv_iload hx hb dL_isCord_167 (lv_at hl 7 rfl) ?_
            refine lv_aload_n hx hb dL_isCord_169 rfl (lv_at hl 0 rfl) ?_
            refine lv_iload_n hx hb dL_isCord_170 rfl (lv_at hl 1 rfl) ?_
            refine lv_iconst (v := (nI 2)) hx hb dL_isCord_171 (by decide) ?_
            obtain ⟨fs_172, hfs_172⟩ := hTT.rc
            refine z_Vi_eq (As := [.int (nI iz), .int (nI 2)]) (rest := [.int (nI kz)]) C0 hP hS hl.1 (m_X4_cordOf l _ hTT hi (by decide) hI.pc) lk_L_15 hTT.n0 hfs_172 rfl rfl (Nat.le_of_ble_eq_true rfl) ⟨Nat.le_of_ble_eq_true rfl, Nat.le_of_ble_eq_true rfl⟩ rfl rfl ⟨Nat.zero_le _, Nat.zero_le _⟩ dL_isCord_172 (fun H locs hP hS => ?_)
            refine z_topi (y := nI (cm st iz)) (hI.1.pcE hi) ?_
            refine lv_icmp_ge (tgt := 218) hx hb dL_isCord_175 (by decide) (fun c_175 => ?_) (fun c_175 => ?_)
            · have hk3 : kz = cm st iz := by have := z_ge_t c_175 (by have := hI.1.m16 hi; omega) (by have := hI.1.m16 hi; omega); omega
              rw [hk3] at hl
              refine lv_iload hx hb dL_isCord_218 (lv_at hl 6 rfl) ?_
              refine lv_if_eq (tgt := 299) hx hb dL_isCord_220 (by decide) (fun c_220 => absurd c_220 (by decide)) (fun c_220 => ?_)
              refine lv_iload_n hx hb dL_isCord_223 rfl (lv_at hl 2 rfl) ?_
              refine lv_aload_n hx hb dL_isCord_224 rfl (lv_at hl 0 rfl) ?_
              refine lv_iload_n hx hb dL_isCord_225 rfl (lv_at hl 1 rfl) ?_
              refine lv_iconst (v := (nI 0)) hx hb dL_isCord_226 (by decide) ?_
              obtain ⟨fs_227, hfs_227⟩ := hTT.rc
              refine z_Vi_eq (As := [.int (nI iz), .int (nI 0)]) (rest := [.int (tdP (fK st iz) (fL st iz) 6)]) C0 hP hS hl.1 (m_X4_cordOf l _ hTT hi (by decide) hI.pc) lk_L_15 hTT.n0 hfs_227 rfl rfl (Nat.le_of_ble_eq_true rfl) ⟨Nat.le_of_ble_eq_true rfl, Nat.le_of_ble_eq_true rfl⟩ rfl rfl ⟨Nat.zero_le _, Nat.zero_le _⟩ dL_isCord_227 (fun H locs hP hS => ?_)
              refine lv_icmp_ne (tgt := 299) hx hb dL_isCord_230 (by decide) (fun c_230 => absurd (tdP_6 _ _) c_230) (fun c_230 => ?_)
              refine lv_iload hx hb dL_isCord_233 (lv_at hl 5 rfl) ?_
              refine lv_aload_n hx hb dL_isCord_235 rfl (lv_at hl 0 rfl) ?_
              refine lv_iload_n hx hb dL_isCord_236 rfl (lv_at hl 1 rfl) ?_
              refine lv_iconst (v := (nI 1)) hx hb dL_isCord_237 (by decide) ?_
              obtain ⟨fs_238, hfs_238⟩ := hTT.rc
              refine z_Vi_eq (As := [.int (nI iz), .int (nI 1)]) (rest := [.int (sumN (fP st iz) (cm st iz))]) C0 hP hS hl.1 (m_X4_cordOf l _ hTT hi (by decide) hI.pc) lk_L_15 hTT.n0 hfs_238 rfl rfl (Nat.le_of_ble_eq_true rfl) ⟨Nat.le_of_ble_eq_true rfl, Nat.le_of_ble_eq_true rfl⟩ rfl rfl ⟨Nat.zero_le _, Nat.zero_le _⟩ dL_isCord_238 (fun H locs hP hS => ?_)
              refine lv_icmp_ne (tgt := 299) hx hb dL_isCord_241 (by decide) (fun c_241 => absurd rfl c_241) (fun c_241 => ?_)
              refine lv_aload_n hx hb dL_isCord_244 rfl (lv_at hl 0 rfl) ?_
              refine lv_iload_n hx hb dL_isCord_245 rfl (lv_at hl 1 rfl) ?_
              refine lv_iconst (v := (nI 3)) hx hb dL_isCord_246 (by decide) ?_
              obtain ⟨fs_247, hfs_247⟩ := hTT.rc
              refine z_Vi_eq (As := [.int (nI iz), .int (nI 3)]) (rest := []) C0 hP hS hl.1 (m_X4_cordOf l _ hTT hi (by decide) hI.pc) lk_L_15 hTT.n0 hfs_247 rfl rfl (Nat.le_of_ble_eq_true rfl) ⟨Nat.le_of_ble_eq_true rfl, Nat.le_of_ble_eq_true rfl⟩ rfl rfl ⟨Nat.zero_le _, Nat.zero_le _⟩ dL_isCord_247 (fun H locs hP hS => ?_)
              refine lv_iload hx hb dL_isCord_250 (lv_at hl 5 rfl) ?_
              refine lv_iload_n hx hb dL_isCord_252 rfl (lv_at hl 2 rfl) ?_
              refine lv_isub hx hb dL_isCord_253 ?_
              refine lv_icmp_ne (tgt := 299) hx hb dL_isCord_254 (by decide) (fun c_254 => absurd lack_e c_254) (fun c_254 => ?_)
              refine lv_iload hx hb dL_isCord_257 (lv_at hl 5 rfl) ?_
              refine lv_iload_n hx hb dL_isCord_259 rfl (lv_at hl 2 rfl) ?_
              refine lv_icmp_lt (tgt := 299) hx hb dL_isCord_260 (by decide) (fun c_260 => absurd c_260 (told_le hI.1 hi)) (fun c_260 => ?_)
              refine lv_iload hx hb dL_isCord_263 (lv_at hl 3 rfl) ?_
              refine lv_aload_n hx hb dL_isCord_265 rfl (lv_at hl 0 rfl) ?_
              refine lv_iload_n hx hb dL_isCord_266 rfl (lv_at hl 1 rfl) ?_
              refine lv_iconst (v := (nI 4)) hx hb dL_isCord_267 (by decide) ?_
              obtain ⟨fs_268, hfs_268⟩ := hTT.rc
              refine z_Vi_eq (As := [.int (nI iz), .int (nI 4)]) (rest := [.int (sumN (fun p => fK st iz p + fL st iz p) 6)]) C0 hP hS hl.1 (m_X4_cordOf l _ hTT hi (by decide) hI.pc) lk_L_15 hTT.n0 hfs_268 rfl rfl (Nat.le_of_ble_eq_true rfl) ⟨Nat.le_of_ble_eq_true rfl, Nat.le_of_ble_eq_true rfl⟩ rfl rfl ⟨Nat.zero_le _, Nat.zero_le _⟩ dL_isCord_268 (fun H locs hP hS => ?_)
              refine lv_icmp_ne (tgt := 299) hx hb dL_isCord_271 (by decide) (fun c_271 => absurd (sumN_add _ _ 6) c_271) (fun c_271 => ?_)
              refine lv_iload hx hb dL_isCord_274 (lv_at hl 4 rfl) ?_
              refine lv_aload_n hx hb dL_isCord_276 rfl (lv_at hl 0 rfl) ?_
              refine lv_iload_n hx hb dL_isCord_277 rfl (lv_at hl 1 rfl) ?_
              refine lv_iconst (v := (nI 5)) hx hb dL_isCord_278 (by decide) ?_
              obtain ⟨fs_279, hfs_279⟩ := hTT.rc
              refine z_Vi_eq (As := [.int (nI iz), .int (nI 5)]) (rest := [.int (sumN (fL st iz) 6)]) C0 hP hS hl.1 (m_X4_cordOf l _ hTT hi (by decide) hI.pc) lk_L_15 hTT.n0 hfs_279 rfl rfl (Nat.le_of_ble_eq_true rfl) ⟨Nat.le_of_ble_eq_true rfl, Nat.le_of_ble_eq_true rfl⟩ rfl rfl ⟨Nat.zero_le _, Nat.zero_le _⟩ dL_isCord_279 (fun H locs hP hS => ?_)
              refine lv_icmp_ne (tgt := 299) hx hb dL_isCord_282 (by decide) (fun c_282 => absurd rfl c_282) (fun c_282 => ?_)
              refine lv_aload_n hx hb dL_isCord_285 rfl (lv_at hl 0 rfl) ?_
              refine lv_iload_n hx hb dL_isCord_286 rfl (lv_at hl 1 rfl) ?_
              refine lv_bipush (v := (nI 7)) hx hb dL_isCord_287 (by decide) ?_
              obtain ⟨fs_289, hfs_289⟩ := hTT.rc
              refine z_Vi_eq (As := [.int (nI iz), .int (nI 7)]) (rest := []) C0 hP hS hl.1 (m_X4_cordOf l _ hTT hi (by decide) hI.pc) lk_L_15 hTT.n0 hfs_289 rfl rfl (Nat.le_of_ble_eq_true rfl) ⟨Nat.le_of_ble_eq_true rfl, Nat.le_of_ble_eq_true rfl⟩ rfl rfl ⟨Nat.zero_le _, Nat.zero_le _⟩ dL_isCord_289 (fun H locs hP hS => ?_)
              refine lv_if_lt (tgt := 299) hx hb dL_isCord_292 (by decide) (fun c_292 => absurd c_292 (sli_nn hI.2.2.2 hi)) (fun c_292 => ?_)
              refine lv_iconst (v := 1) hx hb dL_isCord_295 (by decide) ?_
              refine lv_goto (tgt := 300) hx hb dL_isCord_296 (by decide) ?_
              exact z_zret C0 hP hS hr rfl (⟨rfl, rfl⟩) dL_isCord_300
            · have hk3 : kz < cm st iz := z_ge_f c_175 (by have := hI.1.m16 hi; omega) (by have := hI.1.m16 hi; omega)
              refine lv_iload hx hb dL_isCord_178 (lv_at hl 6 rfl) ?_
              refine lv_if_eq (tgt := 218) hx hb dL_isCord_180 (by decide) (fun c_180 => absurd c_180 (by decide)) (fun c_180 => ?_)
              refine lv_iload hx hb dL_isCord_183 (lv_at hl 5 rfl) ?_
              refine lv_aload_n hx hb dL_isCord_185 rfl (lv_at hl 0 rfl) ?_
              refine lv_iload_n hx hb dL_isCord_186 rfl (lv_at hl 1 rfl) ?_
              refine lv_iload hx hb dL_isCord_187 (lv_at hl 7 rfl) ?_
              obtain ⟨fs_189, hfs_189⟩ := hTT.rc
              refine z_Vi_eq (As := [.int (nI iz), .int (nI kz)]) (rest := [.int (sumN (fP st iz) kz)]) C0 hP hS hl.1 (m_X4_part l _ hTT hi (nI_pos' (by have := hI.1.m16 hi; omega)) hI.pc) lk_L_63 hTT.n0 hfs_189 rfl rfl (Nat.le_of_ble_eq_true rfl) ⟨Nat.le_of_ble_eq_true rfl, Nat.le_of_ble_eq_true rfl⟩ rfl rfl ⟨Nat.zero_le _, Nat.zero_le _⟩ dL_isCord_189 (fun H locs hP hS => ?_)
              refine z_topi (y := fP st iz kz) (partF_at hk3 (hI.1.m16 hi)) ?_
              refine lv_iadd hx hb dL_isCord_192 ?_
              refine z_topi (y := sumN (fP st iz) (kz + 1)) rfl ?_
              refine lv_istore (lv' := [(6, .int (sumN (fP st iz) (kz + 1))), (0, .ref (ad 0)), (1, .int (nI iz)), (2, .int (tdP (fK st iz) (fL st iz) 6)), (4, .int (sumN (fun p => fK st iz p + fL st iz p) 6)), (5, .int (sumN (fL st iz) 6)), (7, .int 1), (8, .int (nI kz))]) hx hb dL_isCord_193 hl (by decide) rfl (fun ls hl => ?_)
              refine lv_aload_n hx hb dL_isCord_195 rfl (lv_at hl 1 rfl) ?_
              refine lv_iload_n hx hb dL_isCord_196 rfl (lv_at hl 2 rfl) ?_
              refine lv_iload hx hb dL_isCord_197 (lv_at hl 7 rfl) ?_
              obtain ⟨fs_199, hfs_199⟩ := hTT.rc
              refine z_Vi_eq (As := [.int (nI iz), .int (nI kz)]) (rest := []) C0 hP hS hl.1 (m_X4_part l _ hTT hi (nI_pos' (by have := hI.1.m16 hi; omega)) hI.pc) lk_L_63 hTT.n0 hfs_199 rfl rfl (Nat.le_of_ble_eq_true rfl) ⟨Nat.le_of_ble_eq_true rfl, Nat.le_of_ble_eq_true rfl⟩ rfl rfl ⟨Nat.zero_le _, Nat.zero_le _⟩ dL_isCord_199 (fun H locs hP hS => ?_)
              refine z_topi (y := fP st iz kz) (partF_at hk3 (hI.1.m16 hi)) ?_
              refine lv_if_le (tgt := 209) hx hb dL_isCord_202 (by decide) (fun c_202 => absurd c_202 (part_pos hI.1 hi hk3)) (fun c_202 => ?_)
              refine lv_iconst (v := 1) hx hb dL_isCord_205 (by decide) ?_
              refine lv_goto (tgt := 210) hx hb dL_isCord_206 (by decide) ?_
              refine lv_istore (lv' := [(7, .int 1), (6, .int (sumN (fP st iz) (kz + 1))), (0, .ref (ad 0)), (1, .int (nI iz)), (2, .int (tdP (fK st iz) (fL st iz) 6)), (4, .int (sumN (fun p => fK st iz p + fL st iz p) 6)), (5, .int (sumN (fL st iz) 6)), (8, .int (nI kz))]) hx hb dL_isCord_210 hl (by decide) rfl (fun ls hl => ?_)
              refine lv_iinc (v := nI (kz + 1)) (lv' := [(8, .int (nI (kz + 1))), (7, .int 1), (6, .int (sumN (fP st iz) (kz + 1))), (0, .ref (ad 0)), (1, .int (nI iz)), (2, .int (tdP (fK st iz) (fL st iz) 6)), (4, .int (sumN (fun p => fK st iz p + fL st iz p) 6)), (5, .int (sumN (fL st iz) 6))]) hx hb dL_isCord_212 hl (k := 7) rfl (z_inc _) (by decide) rfl (fun ls hl => ?_)
              refine lv_goto (tgt := 167) hx hb dL_isCord_215 (by decide) ?_
              exact ih_167 (kz + 1) (by omega) (by omega) _ _ _ hP hS  (lv_sub hl [3, 4, 5, 6, 7, 2, 1, 0] rfl)
        exact lp_167 _ 0 (Nat.zero_le _) (Nat.lt_succ_self _) _ _ _ hP hS  (lv_sub hl [1, 2, 3, 5, 6, 7, 8, 0] rfl)
      · have hk2 : jz < 6 := z_ge_f (b := 6) c_23 (by omega) (by omega)
        refine lv_iload hx hb dL_isCord_26 (lv_at hl 7 rfl) ?_
        refine lv_if_eq (tgt := 164) hx hb dL_isCord_28 (by decide) (fun c_28 => absurd c_28 (by decide)) (fun c_28 => ?_)
        refine lv_aload_n hx hb dL_isCord_31 rfl (lv_at hl 0 rfl) ?_
        refine lv_iload_n hx hb dL_isCord_32 rfl (lv_at hl 1 rfl) ?_
        refine lv_iload hx hb dL_isCord_33 (lv_at hl 8 rfl) ?_
        refine lv_iconst (v := (nI 0)) hx hb dL_isCord_35 (by decide) ?_
        obtain ⟨fs_36, hfs_36⟩ := hTT.rc
        refine z_Vi_eq (As := [.int (nI iz), .int (nI jz), .int (nI 0)]) (rest := []) C0 hP hS hl.1 (m_X4_placeOf l _ hTT hi hk2 (by decide)) lk_L_37 hTT.n0 hfs_36 rfl rfl (Nat.le_of_ble_eq_true rfl) ⟨Nat.le_of_ble_eq_true rfl, Nat.le_of_ble_eq_true rfl⟩ rfl rfl ⟨Nat.zero_le _, Nat.zero_le _⟩ dL_isCord_36 (fun H locs hP hS => ?_)
        refine z_topi (y := fK st iz jz) rfl ?_
        refine lv_istore (lv' := [(9, .int (fK st iz jz)), (0, .ref (ad 0)), (1, .int (nI iz)), (2, .int (tdP (fK st iz) (fL st iz) jz)), (3, .int (pwN jz)), (4, .int (sumN (fun p => fK st iz p + fL st iz p) jz)), (5, .int (sumN (fL st iz) jz)), (6, .int (sumN (fP st iz) 0)), (7, .int 1), (8, .int (nI jz))]) hx hb dL_isCord_39 hl (by decide) rfl (fun ls hl => ?_)
        refine lv_aload_n hx hb dL_isCord_41 rfl (lv_at hl 1 rfl) ?_
        refine lv_iload_n hx hb dL_isCord_42 rfl (lv_at hl 2 rfl) ?_
        refine lv_iload hx hb dL_isCord_43 (lv_at hl 9 rfl) ?_
        refine lv_iconst (v := (nI 1)) hx hb dL_isCord_45 (by decide) ?_
        obtain ⟨fs_46, hfs_46⟩ := hTT.rc
        refine z_Vi_eq (As := [.int (nI iz), .int (nI jz), .int (nI 1)]) (rest := []) C0 hP hS hl.1 (m_X4_placeOf l _ hTT hi hk2 (by decide)) lk_L_37 hTT.n0 hfs_46 rfl rfl (Nat.le_of_ble_eq_true rfl) ⟨Nat.le_of_ble_eq_true rfl, Nat.le_of_ble_eq_true rfl⟩ rfl rfl ⟨Nat.zero_le _, Nat.zero_le _⟩ dL_isCord_46 (fun H locs hP hS => ?_)
        refine z_topi (y := fL st iz jz) rfl ?_
        refine lv_istore (lv' := [(10, .int (fL st iz jz)), (9, .int (fK st iz jz)), (0, .ref (ad 0)), (1, .int (nI iz)), (2, .int (tdP (fK st iz) (fL st iz) jz)), (3, .int (pwN jz)), (4, .int (sumN (fun p => fK st iz p + fL st iz p) jz)), (5, .int (sumN (fL st iz) jz)), (6, .int (sumN (fP st iz) 0)), (7, .int 1), (8, .int (nI jz))]) hx hb dL_isCord_49 hl (by decide) rfl (fun ls hl => ?_)
        refine lv_aload_n hx hb dL_isCord_51 rfl (lv_at hl 2 rfl) ?_
        refine lv_iload_n hx hb dL_isCord_52 rfl (lv_at hl 3 rfl) ?_
        refine lv_iload hx hb dL_isCord_53 (lv_at hl 10 rfl) ?_
        refine lv_iconst (v := (nI 2)) hx hb dL_isCord_55 (by decide) ?_
        obtain ⟨fs_56, hfs_56⟩ := hTT.rc
        refine z_Vi_eq (As := [.int (nI iz), .int (nI jz), .int (nI 2)]) (rest := []) C0 hP hS hl.1 (m_X4_placeOf l _ hTT hi hk2 (by decide)) lk_L_37 hTT.n0 hfs_56 rfl rfl (Nat.le_of_ble_eq_true rfl) ⟨Nat.le_of_ble_eq_true rfl, Nat.le_of_ble_eq_true rfl⟩ rfl rfl ⟨Nat.zero_le _, Nat.zero_le _⟩ dL_isCord_56 (fun H locs hP hS => ?_)
        refine z_topi (y := opn (fK st iz) (fL st iz) jz) rfl ?_
        refine lv_istore (lv' := [(11, .int (opn (fK st iz) (fL st iz) jz)), (10, .int (fL st iz jz)), (9, .int (fK st iz jz)), (0, .ref (ad 0)), (1, .int (nI iz)), (2, .int (tdP (fK st iz) (fL st iz) jz)), (3, .int (pwN jz)), (4, .int (sumN (fun p => fK st iz p + fL st iz p) jz)), (5, .int (sumN (fL st iz) jz)), (6, .int (sumN (fP st iz) 0)), (7, .int 1), (8, .int (nI jz))]) hx hb dL_isCord_59 hl (by decide) rfl (fun ls hl => ?_)
        refine lv_aload_n hx hb dL_isCord_61 rfl (lv_at hl 3 rfl) ?_
        refine lv_bipush (v := (nI 8)) hx hb dL_isCord_62 (by decide) ?_
        obtain ⟨fs_64, hfs_64⟩ := hTT.rc
        refine z_Vi_eq (As := [.int (nI 8)]) (rest := []) C0 hP hS hl.1 (m_X4_count l _ hTT (by decide) hI.pc) lk_L_20 hTT.n0 hfs_64 rfl rfl (Nat.le_of_ble_eq_true rfl) ⟨Nat.le_of_ble_eq_true rfl, Nat.le_of_ble_eq_true rfl⟩ rfl rfl ⟨Nat.zero_le _, Nat.zero_le _⟩ dL_isCord_64 (fun H locs hP hS => ?_)
        refine z_topi (y := st 5) rfl ?_
        refine lv_iload hx hb dL_isCord_67 (lv_at hl 2 rfl) ?_
        refine lv_isub hx hb dL_isCord_69 ?_
        refine lv_iload hx hb dL_isCord_70 (lv_at hl 1 rfl) ?_
        refine lv_isub hx hb dL_isCord_72 ?_
        refine lv_istore (lv' := [(12, .int (((st 5) - (fK st iz jz)) - (fL st iz jz))), (11, .int (opn (fK st iz) (fL st iz) jz)), (10, .int (fL st iz jz)), (9, .int (fK st iz jz)), (0, .ref (ad 0)), (1, .int (nI iz)), (2, .int (tdP (fK st iz) (fL st iz) jz)), (3, .int (pwN jz)), (4, .int (sumN (fun p => fK st iz p + fL st iz p) jz)), (5, .int (sumN (fL st iz) jz)), (6, .int (sumN (fP st iz) 0)), (7, .int 1), (8, .int (nI jz))]) hx hb dL_isCord_73 hl (by decide) rfl (fun ls hl => ?_)
        refine lv_iload hx hb dL_isCord_75 (lv_at hl 1 rfl) ?_
        refine lv_iload hx hb dL_isCord_77 (lv_at hl 3 rfl) ?_
        refine lv_bipush (v := 10) hx hb dL_isCord_79 (by decide) ?_
        refine lv_iload hx hb dL_isCord_81 (lv_at hl 2 rfl) ?_
        refine lv_imul hx hb dL_isCord_83 ?_
        refine lv_isub hx hb dL_isCord_84 ?_
        refine lv_icmp_ne (tgt := 126) hx hb dL_isCord_85 (by decide) (fun c_85 => absurd (rfl) c_85) (fun c_85 => ?_)
        refine lv_iload hx hb dL_isCord_88 (lv_at hl 1 rfl) ?_
        refine lv_if_lt (tgt := 126) hx hb dL_isCord_90 (by decide) (fun c_90 => absurd c_90 (opn_nn hI.1 hi hk2)) (fun c_90 => ?_)
        refine lv_iload hx hb dL_isCord_93 (lv_at hl 1 rfl) ?_
        refine lv_bipush (v := 10) hx hb dL_isCord_95 (by decide) ?_
        refine lv_icmp_ge (tgt := 126) hx hb dL_isCord_97 (by decide) (fun c_97 => absurd c_97 (opn_l9 hI.1 hi hk2)) (fun c_97 => ?_)
        refine lv_aload_n hx hb dL_isCord_100 rfl (lv_at hl 4 rfl) ?_
        refine lv_iload_n hx hb dL_isCord_101 rfl (lv_at hl 5 rfl) ?_
        refine lv_iload hx hb dL_isCord_102 (lv_at hl 12 rfl) ?_
        refine lv_iconst (v := (nI 3)) hx hb dL_isCord_104 (by decide) ?_
        obtain ⟨fs_105, hfs_105⟩ := hTT.rc
        refine z_Vi_eq (As := [.int (nI iz), .int (nI jz), .int (nI 3)]) (rest := []) C0 hP hS hl.1 (m_X4_placeOf l _ hTT hi hk2 (by decide)) lk_L_37 hTT.n0 hfs_105 rfl rfl (Nat.le_of_ble_eq_true rfl) ⟨Nat.le_of_ble_eq_true rfl, Nat.le_of_ble_eq_true rfl⟩ rfl rfl ⟨Nat.zero_le _, Nat.zero_le _⟩ dL_isCord_105 (fun H locs hP hS => ?_)
        refine lv_iload hx hb dL_isCord_108 (lv_at hl 0 rfl) ?_
        refine lv_if_le (tgt := 118) hx hb dL_isCord_110 (by decide) (fun c_110 => ?_) (fun c_110 => ?_)
        · refine lv_iconst (v := 0) hx hb dL_isCord_118 (by decide) ?_
          refine lv_icmp_ne (tgt := 126) hx hb dL_isCord_119 (by decide) (fun c_119 => absurd (plc_T c_110) c_119) (fun c_119 => ?_)
          refine lv_iconst (v := 1) hx hb dL_isCord_122 (by decide) ?_
          refine lv_goto (tgt := 127) hx hb dL_isCord_123 (by decide) ?_
          refine lv_istore (lv' := [(7, .int 1), (12, .int (((st 5) - (fK st iz jz)) - (fL st iz jz))), (11, .int (opn (fK st iz) (fL st iz) jz)), (10, .int (fL st iz jz)), (9, .int (fK st iz jz)), (0, .ref (ad 0)), (1, .int (nI iz)), (2, .int (tdP (fK st iz) (fL st iz) jz)), (3, .int (pwN jz)), (4, .int (sumN (fun p => fK st iz p + fL st iz p) jz)), (5, .int (sumN (fL st iz) jz)), (6, .int (sumN (fP st iz) 0)), (8, .int (nI jz))]) hx hb dL_isCord_127 hl (by decide) rfl (fun ls hl => ?_)
          refine lv_iload_n hx hb dL_isCord_129 rfl (lv_at hl 7 rfl) ?_
          refine lv_iload hx hb dL_isCord_130 (lv_at hl 2 rfl) ?_
          refine lv_iload_n hx hb dL_isCord_132 rfl (lv_at hl 8 rfl) ?_
          refine lv_imul hx hb dL_isCord_133 ?_
          refine lv_iadd hx hb dL_isCord_134 ?_
          refine z_topi (y := tdP (fK st iz) (fL st iz) (jz + 1)) rfl ?_
          refine lv_istore_n (lv' := [(2, .int (tdP (fK st iz) (fL st iz) (jz + 1))), (7, .int 1), (12, .int (((st 5) - (fK st iz jz)) - (fL st iz jz))), (11, .int (opn (fK st iz) (fL st iz) jz)), (10, .int (fL st iz jz)), (9, .int (fK st iz jz)), (0, .ref (ad 0)), (1, .int (nI iz)), (3, .int (pwN jz)), (4, .int (sumN (fun p => fK st iz p + fL st iz p) jz)), (5, .int (sumN (fL st iz) jz)), (6, .int (sumN (fP st iz) 0)), (8, .int (nI jz))]) hx hb dL_isCord_135 rfl hl (by decide) rfl (fun ls hl => ?_)
          refine lv_iload_n hx hb dL_isCord_136 rfl (lv_at hl 8 rfl) ?_
          refine lv_bipush (v := 10) hx hb dL_isCord_137 (by decide) ?_
          refine lv_imul hx hb dL_isCord_139 ?_
          refine z_topi (y := pwN (jz + 1)) rfl ?_
          refine lv_istore_n (lv' := [(3, .int (pwN (jz + 1))), (2, .int (tdP (fK st iz) (fL st iz) (jz + 1))), (7, .int 1), (12, .int (((st 5) - (fK st iz jz)) - (fL st iz jz))), (11, .int (opn (fK st iz) (fL st iz) jz)), (10, .int (fL st iz jz)), (9, .int (fK st iz jz)), (0, .ref (ad 0)), (1, .int (nI iz)), (4, .int (sumN (fun p => fK st iz p + fL st iz p) jz)), (5, .int (sumN (fL st iz) jz)), (6, .int (sumN (fP st iz) 0)), (8, .int (nI jz))]) hx hb dL_isCord_140 rfl hl (by decide) rfl (fun ls hl => ?_)
          refine lv_iload hx hb dL_isCord_141 (lv_at hl 9 rfl) ?_
          refine lv_iload hx hb dL_isCord_143 (lv_at hl 6 rfl) ?_
          refine lv_iload hx hb dL_isCord_145 (lv_at hl 5 rfl) ?_
          refine lv_iadd hx hb dL_isCord_147 ?_
          refine lv_iadd hx hb dL_isCord_148 ?_
          refine z_topi (y := sumN (fun p => fK st iz p + fL st iz p) (jz + 1)) rfl ?_
          refine lv_istore (lv' := [(4, .int (sumN (fun p => fK st iz p + fL st iz p) (jz + 1))), (3, .int (pwN (jz + 1))), (2, .int (tdP (fK st iz) (fL st iz) (jz + 1))), (7, .int 1), (12, .int (((st 5) - (fK st iz jz)) - (fL st iz jz))), (11, .int (opn (fK st iz) (fL st iz) jz)), (10, .int (fL st iz jz)), (9, .int (fK st iz jz)), (0, .ref (ad 0)), (1, .int (nI iz)), (5, .int (sumN (fL st iz) jz)), (6, .int (sumN (fP st iz) 0)), (8, .int (nI jz))]) hx hb dL_isCord_149 hl (by decide) rfl (fun ls hl => ?_)
          refine lv_iload hx hb dL_isCord_151 (lv_at hl 10 rfl) ?_
          refine lv_iload hx hb dL_isCord_153 (lv_at hl 6 rfl) ?_
          refine lv_iadd hx hb dL_isCord_155 ?_
          refine z_topi (y := sumN (fL st iz) (jz + 1)) rfl ?_
          refine lv_istore (lv' := [(5, .int (sumN (fL st iz) (jz + 1))), (4, .int (sumN (fun p => fK st iz p + fL st iz p) (jz + 1))), (3, .int (pwN (jz + 1))), (2, .int (tdP (fK st iz) (fL st iz) (jz + 1))), (7, .int 1), (12, .int (((st 5) - (fK st iz jz)) - (fL st iz jz))), (11, .int (opn (fK st iz) (fL st iz) jz)), (10, .int (fL st iz jz)), (9, .int (fK st iz jz)), (0, .ref (ad 0)), (1, .int (nI iz)), (6, .int (sumN (fP st iz) 0)), (8, .int (nI jz))]) hx hb dL_isCord_156 hl (by decide) rfl (fun ls hl => ?_)
          refine lv_iinc (v := nI (jz + 1)) (lv' := [(8, .int (nI (jz + 1))), (5, .int (sumN (fL st iz) (jz + 1))), (4, .int (sumN (fun p => fK st iz p + fL st iz p) (jz + 1))), (3, .int (pwN (jz + 1))), (2, .int (tdP (fK st iz) (fL st iz) (jz + 1))), (7, .int 1), (12, .int (((st 5) - (fK st iz jz)) - (fL st iz jz))), (11, .int (opn (fK st iz) (fL st iz) jz)), (10, .int (fL st iz jz)), (9, .int (fK st iz jz)), (0, .ref (ad 0)), (1, .int (nI iz)), (6, .int (sumN (fP st iz) 0))]) hx hb dL_isCord_158 hl (k := 12) rfl (z_inc _) (by decide) rfl (fun ls hl => ?_)
          refine lv_goto (tgt := 19) hx hb dL_isCord_161 (by decide) ?_
          exact ih_19 (jz + 1) (by omega) (by omega) _ _ _ hP hS  (lv_sub hl [10, 11, 4, 3, 2, 1, 12, 5, 0] rfl)
        · refine lv_iload hx hb dL_isCord_113 (lv_at hl 0 rfl) ?_
          refine lv_goto (tgt := 119) hx hb dL_isCord_115 (by decide) ?_
          refine lv_icmp_ne (tgt := 126) hx hb dL_isCord_119 (by decide) (fun c_119 => absurd (plc_F c_110) c_119) (fun c_119 => ?_)
          refine lv_iconst (v := 1) hx hb dL_isCord_122 (by decide) ?_
          refine lv_goto (tgt := 127) hx hb dL_isCord_123 (by decide) ?_
          refine lv_istore (lv' := [(7, .int 1), (12, .int (((st 5) - (fK st iz jz)) - (fL st iz jz))), (11, .int (opn (fK st iz) (fL st iz) jz)), (10, .int (fL st iz jz)), (9, .int (fK st iz jz)), (0, .ref (ad 0)), (1, .int (nI iz)), (2, .int (tdP (fK st iz) (fL st iz) jz)), (3, .int (pwN jz)), (4, .int (sumN (fun p => fK st iz p + fL st iz p) jz)), (5, .int (sumN (fL st iz) jz)), (6, .int (sumN (fP st iz) 0)), (8, .int (nI jz))]) hx hb dL_isCord_127 hl (by decide) rfl (fun ls hl => ?_)
          refine lv_iload_n hx hb dL_isCord_129 rfl (lv_at hl 7 rfl) ?_
          refine lv_iload hx hb dL_isCord_130 (lv_at hl 2 rfl) ?_
          refine lv_iload_n hx hb dL_isCord_132 rfl (lv_at hl 8 rfl) ?_
          refine lv_imul hx hb dL_isCord_133 ?_
          refine lv_iadd hx hb dL_isCord_134 ?_
          refine z_topi (y := tdP (fK st iz) (fL st iz) (jz + 1)) rfl ?_
          refine lv_istore_n (lv' := [(2, .int (tdP (fK st iz) (fL st iz) (jz + 1))), (7, .int 1), (12, .int (((st 5) - (fK st iz jz)) - (fL st iz jz))), (11, .int (opn (fK st iz) (fL st iz) jz)), (10, .int (fL st iz jz)), (9, .int (fK st iz jz)), (0, .ref (ad 0)), (1, .int (nI iz)), (3, .int (pwN jz)), (4, .int (sumN (fun p => fK st iz p + fL st iz p) jz)), (5, .int (sumN (fL st iz) jz)), (6, .int (sumN (fP st iz) 0)), (8, .int (nI jz))]) hx hb dL_isCord_135 rfl hl (by decide) rfl (fun ls hl => ?_)
          refine lv_iload_n hx hb dL_isCord_136 rfl (lv_at hl 8 rfl) ?_
          refine lv_bipush (v := 10) hx hb dL_isCord_137 (by decide) ?_
          refine lv_imul hx hb dL_isCord_139 ?_
          refine z_topi (y := pwN (jz + 1)) rfl ?_
          refine lv_istore_n (lv' := [(3, .int (pwN (jz + 1))), (2, .int (tdP (fK st iz) (fL st iz) (jz + 1))), (7, .int 1), (12, .int (((st 5) - (fK st iz jz)) - (fL st iz jz))), (11, .int (opn (fK st iz) (fL st iz) jz)), (10, .int (fL st iz jz)), (9, .int (fK st iz jz)), (0, .ref (ad 0)), (1, .int (nI iz)), (4, .int (sumN (fun p => fK st iz p + fL st iz p) jz)), (5, .int (sumN (fL st iz) jz)), (6, .int (sumN (fP st iz) 0)), (8, .int (nI jz))]) hx hb dL_isCord_140 rfl hl (by decide) rfl (fun ls hl => ?_)
          refine lv_iload hx hb dL_isCord_141 (lv_at hl 9 rfl) ?_
          refine lv_iload hx hb dL_isCord_143 (lv_at hl 6 rfl) ?_
          refine lv_iload hx hb dL_isCord_145 (lv_at hl 5 rfl) ?_
          refine lv_iadd hx hb dL_isCord_147 ?_
          refine lv_iadd hx hb dL_isCord_148 ?_
          refine z_topi (y := sumN (fun p => fK st iz p + fL st iz p) (jz + 1)) rfl ?_
          refine lv_istore (lv' := [(4, .int (sumN (fun p => fK st iz p + fL st iz p) (jz + 1))), (3, .int (pwN (jz + 1))), (2, .int (tdP (fK st iz) (fL st iz) (jz + 1))), (7, .int 1), (12, .int (((st 5) - (fK st iz jz)) - (fL st iz jz))), (11, .int (opn (fK st iz) (fL st iz) jz)), (10, .int (fL st iz jz)), (9, .int (fK st iz jz)), (0, .ref (ad 0)), (1, .int (nI iz)), (5, .int (sumN (fL st iz) jz)), (6, .int (sumN (fP st iz) 0)), (8, .int (nI jz))]) hx hb dL_isCord_149 hl (by decide) rfl (fun ls hl => ?_)
          refine lv_iload hx hb dL_isCord_151 (lv_at hl 10 rfl) ?_
          refine lv_iload hx hb dL_isCord_153 (lv_at hl 6 rfl) ?_
          refine lv_iadd hx hb dL_isCord_155 ?_
          refine z_topi (y := sumN (fL st iz) (jz + 1)) rfl ?_
          refine lv_istore (lv' := [(5, .int (sumN (fL st iz) (jz + 1))), (4, .int (sumN (fun p => fK st iz p + fL st iz p) (jz + 1))), (3, .int (pwN (jz + 1))), (2, .int (tdP (fK st iz) (fL st iz) (jz + 1))), (7, .int 1), (12, .int (((st 5) - (fK st iz jz)) - (fL st iz jz))), (11, .int (opn (fK st iz) (fL st iz) jz)), (10, .int (fL st iz jz)), (9, .int (fK st iz jz)), (0, .ref (ad 0)), (1, .int (nI iz)), (6, .int (sumN (fP st iz) 0)), (8, .int (nI jz))]) hx hb dL_isCord_156 hl (by decide) rfl (fun ls hl => ?_)
          refine lv_iinc (v := nI (jz + 1)) (lv' := [(8, .int (nI (jz + 1))), (5, .int (sumN (fL st iz) (jz + 1))), (4, .int (sumN (fun p => fK st iz p + fL st iz p) (jz + 1))), (3, .int (pwN (jz + 1))), (2, .int (tdP (fK st iz) (fL st iz) (jz + 1))), (7, .int 1), (12, .int (((st 5) - (fK st iz jz)) - (fL st iz jz))), (11, .int (opn (fK st iz) (fL st iz) jz)), (10, .int (fL st iz jz)), (9, .int (fK st iz jz)), (0, .ref (ad 0)), (1, .int (nI iz)), (6, .int (sumN (fP st iz) 0))]) hx hb dL_isCord_158 hl (k := 12) rfl (z_inc _) (by decide) rfl (fun ls hl => ?_)
          refine lv_goto (tgt := 19) hx hb dL_isCord_161 (by decide) ?_
          exact ih_19 (jz + 1) (by omega) (by omega) _ _ _ hP hS  (lv_sub hl [10, 11, 4, 3, 2, 1, 12, 5, 0] rfl)
  exact lp_19 _ 0 (by decide) (Nat.lt_succ_self _) _ _ _ hP hS  (lv_sub hl [7, 8, 6, 5, 4, 3, 2, 1, 0] rfl)
