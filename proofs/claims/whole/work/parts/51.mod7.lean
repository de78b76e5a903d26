set_option maxHeartbeats 4000000 in
set_option maxRecDepth 100000 in
theorem m_X5_many (l : Launch) {D : va_G} {cy : Nat → ClassId} {K : Nat} {ad : Nat → Nat} {g : Nat → va_E} (sz : Nat) {zm : Int32}  : Met l yX5_many (zs yX5_many cX5_many 3 (some .int)) ({ frames := 0, cells := 0, slots := 0, locals := 0 } : Room) (va_Pc [.int zm] (zIn D cy K ad g sz)) (va_Qi (fun r g1 => g1 = g ∧ r = mnF zm) (zOut D cy K ad sz) (zA K ad sz)) 0 0 (zA K ad sz) := by
  refine z_met (by decide) (Nat.le_of_ble_eq_true rfl) (fun p e s m below meth c ls hsz hl C0 hr hnm hP hS => ?_)
  subst hsz
  have hl : lv_has ls 3 [(0, .int zm)] := hl
  have hx := C0.1; have hb := C0.2.1; have hown := C0.2.2.2.1; have hts := C0.2.2.2.2.1
  refine lv_iconst (v := 0) hx hb dX5_many_0 (by decide) ?_
  refine lv_istore_n (lv' := [(1, .int 0), (0, .int zm)]) hx hb dX5_many_1 rfl hl (by decide) rfl (fun ls hl => ?_)
  refine lv_iconst (v := 0) hx hb dX5_many_2 (by decide) ?_
  refine lv_istore_n (lv' := [(2, .int 0), (1, .int 0), (0, .int zm)]) hx hb dX5_many_3 rfl hl (by decide) rfl (fun ls hl => ?_)
  have lp_4 : ∀ (N : Nat) (kz : Nat) (hk : kz ≤ 7), 7 - kz < N → ∀ (H : Heap) (locs : List Loc) (ls : Array Slot), zP D K ad g (zA K ad s.heap.size) H → va_S (zA K ad s.heap.size) s.heap H locs → lv_has ls 3 [(0, .int zm), (1, .int (sumN (fun c => bitI zm (nI c)) kz)), (2, .int (nI kz))] → W p l e ({ frames := 0, cells := 0, slots := 0, locals := 0 } : Room) s m [.int zm].toArray below meth c H locs 0 0 (MQ below (va_Qi (fun r g1 => g1 = g ∧ r = mnF zm) (zOut D cy K ad s.heap.size) (zA K ad s.heap.size)) [.int zm].toArray s 0 0 (zA K ad s.heap.size)) (F0 m 4 ls []) := by
    intro N
    induction N with
    | zero => intro kz hk hN; exact absurd hN (Nat.not_lt_zero _)
    | succ N ih_4 =>
      intro kz hk hN H locs ls hP hS  hl
      refine lv_iload_n hx hb dX5_many_4 rfl (lv_at hl 2 rfl) ?_
      refine lv_bipush (v := 7) hx hb dX5_many_5 (by decide) ?_
      refine lv_icmp_ge (tgt := 24) hx hb dX5_many_7 (by decide) (fun c_7 => ?_) (fun c_7 => ?_)
      · have hk2 : kz = 7 := by have := z_ge_t (b := 7) c_7 (by omega) (by omega); omega
        subst hk2
        refine lv_iload_n hx hb dX5_many_24 rfl (lv_at hl 1 rfl) ?_
        exact z_iret C0 hP hS hr (⟨rfl, rfl⟩) dX5_many_25
      · have hk2 : kz < 7 := z_ge_f (b := 7) c_7 (by omega) (by omega)
        refine lv_iload_n hx hb dX5_many_10 rfl (lv_at hl 1 rfl) ?_
        refine lv_iload_n hx hb dX5_many_11 rfl (lv_at hl 0 rfl) ?_
        refine lv_iload_n hx hb dX5_many_12 rfl (lv_at hl 2 rfl) ?_
        refine lv_ishr hx hb dX5_many_13 ?_
        refine lv_iconst (v := 1) hx hb dX5_many_14 (by decide) ?_
        refine lv_iand hx hb dX5_many_15 ?_
        refine z_topi (y := bitI zm (nI kz)) rfl ?_
        refine lv_iadd hx hb dX5_many_16 ?_
        refine z_topi (y := sumN (fun c => bitI zm (nI c)) (kz + 1)) rfl ?_
        refine lv_istore_n (lv' := [(1, .int (sumN (fun c => bitI zm (nI c)) (kz + 1))), (0, .int zm), (2, .int (nI kz))]) hx hb dX5_many_17 rfl hl (by decide) rfl (fun ls hl => ?_)
        refine lv_iinc (v := nI (kz + 1)) (lv' := [(2, .int (nI (kz + 1))), (1, .int (sumN (fun c => bitI zm (nI c)) (kz + 1))), (0, .int zm)]) hx hb dX5_many_18 hl (k := 2) rfl (z_inc _) (by decide) rfl (fun ls hl => ?_)
        refine lv_goto (tgt := 4) hx hb dX5_many_21 (by decide) ?_
        exact ih_4 (kz + 1) hk2 (by omega) _ _ _ hP hS  (lv_sub hl [2, 1, 0] rfl)
  exact lp_4 _ 0 (Nat.zero_le _) (Nat.lt_succ_self _) _ _ _ hP hS  (lv_sub hl [2, 1, 0] rfl)
set_option maxHeartbeats 4000000 in
set_option maxRecDepth 100000 in
theorem m_X5_toldBy (l : Launch) {D : va_G} {cy : Nat → ClassId} {K : Nat} {ad : Nat → Nat} {g : Nat → va_E} (sz : Nat) {n : Nat} {sx az so ik sv tx kn lo : Nat → Int32} {th sm lz : Int32} {dg : Int64} {zm : Int32} (hM : isM cy K ad g n sx az so ik sv tx kn lo th sm lz dg) : Met l yX5_toldBy (zs yX5_toldBy cX5_toldBy 4 (some .int)) ({ frames := 4, cells := 0, slots := 0, locals := 88 } : Room) (va_Pc [.ref (ad n), .int zm] (zIn D cy K ad g sz)) (va_Qi (fun r g1 => g1 = g ∧ r = tbF sx zm) (zOut D cy K ad sz) (zA K ad sz)) 0 0 (zA K ad sz) := by
  refine z_met (by decide) (Nat.le_of_ble_eq_true rfl) (fun p e s m below meth c ls hsz hl C0 hr hnm hP hS => ?_)
  subst hsz
  have hl : lv_has ls 4 [(0, .ref (ad n)), (1, .int zm)] := hl
  have hx := C0.1; have hb := C0.2.1; have hown := C0.2.2.2.1; have hts := C0.2.2.2.2.1
  refine lv_iconst (v := 0) hx hb dX5_toldBy_0 (by decide) ?_
  refine lv_istore_n (lv' := [(2, .int 0), (0, .ref (ad n)), (1, .int zm)]) hx hb dX5_toldBy_1 rfl hl (by decide) rfl (fun ls hl => ?_)
  refine lv_iconst (v := 0) hx hb dX5_toldBy_2 (by decide) ?_
  refine lv_istore_n (lv' := [(3, .int 0), (2, .int 0), (0, .ref (ad n)), (1, .int zm)]) hx hb dX5_toldBy_3 rfl hl (by decide) rfl (fun ls hl => ?_)
  have lp_4 : ∀ (N : Nat) (kz : Nat) (hk : kz ≤ 7), 7 - kz < N → ∀ (H : Heap) (locs : List Loc) (ls : Array Slot), zP D K ad g (zA K ad s.heap.size) H → va_S (zA K ad s.heap.size) s.heap H locs → lv_has ls 4 [(0, .ref (ad n)), (1, .int zm), (2, .int (sumN (fun c => bitI zm (nI c) * cTold sx c) kz)), (3, .int (nI kz))] → W p l e ({ frames := 4, cells := 0, slots := 0, locals := 88 } : Room) s m [.ref (ad n), .int zm].toArray below meth c H locs 0 0 (MQ below (va_Qi (fun r g1 => g1 = g ∧ r = tbF sx zm) (zOut D cy K ad s.heap.size) (zA K ad s.heap.size)) [.ref (ad n), .int zm].toArray s 0 0 (zA K ad s.heap.size)) (F0 m 4 ls []) := by
    intro N
    induction N with
    | zero => intro kz hk hN; exact absurd hN (Nat.not_lt_zero _)
    | succ N ih_4 =>
      intro kz hk hN H locs ls hP hS  hl
      refine lv_iload_n hx hb dX5_toldBy_4 rfl (lv_at hl 3 rfl) ?_
      refine lv_bipush (v := 7) hx hb dX5_toldBy_5 (by decide) ?_
      refine lv_icmp_ge (tgt := 30) hx hb dX5_toldBy_7 (by decide) (fun c_7 => ?_) (fun c_7 => ?_)
      · have hk2 : kz = 7 := by have := z_ge_t (b := 7) c_7 (by omega) (by omega); omega
        subst hk2
        refine lv_iload_n hx hb dX5_toldBy_30 rfl (lv_at hl 2 rfl) ?_
        exact z_iret C0 hP hS hr (⟨rfl, rfl⟩) dX5_toldBy_31
      · have hk2 : kz < 7 := z_ge_f (b := 7) c_7 (by omega) (by omega)
        refine lv_iload_n hx hb dX5_toldBy_10 rfl (lv_at hl 2 rfl) ?_
        refine lv_iload_n hx hb dX5_toldBy_11 rfl (lv_at hl 1 rfl) ?_
        refine lv_iload_n hx hb dX5_toldBy_12 rfl (lv_at hl 3 rfl) ?_
        refine lv_ishr hx hb dX5_toldBy_13 ?_
        refine lv_iconst (v := 1) hx hb dX5_toldBy_14 (by decide) ?_
        refine lv_iand hx hb dX5_toldBy_15 ?_
        refine z_topi (y := bitI zm (nI kz)) rfl ?_
        refine lv_aload_n hx hb dX5_toldBy_16 rfl (lv_at hl 0 rfl) ?_
        refine lv_iload_n hx hb dX5_toldBy_17 rfl (lv_at hl 3 rfl) ?_
        refine z_Vi_eq (As := [.int (nI kz)]) (rest := [.int (bitI zm (nI kz)), .int (sumN (fun c => bitI zm (nI c) * cTold sx c) kz)]) C0 hP hS hl.1 (m_X5_told l _ hM hk2) lk_X5_60 hM.n0 hM.o rfl rfl (Nat.le_of_ble_eq_true rfl) ⟨Nat.le_of_ble_eq_true rfl, Nat.le_of_ble_eq_true rfl⟩ rfl rfl ⟨Nat.zero_le _, Nat.zero_le _⟩ dX5_toldBy_18 (fun H locs hP hS => ?_)
        refine lv_imul hx hb dX5_toldBy_21 ?_
        refine lv_iadd hx hb dX5_toldBy_22 ?_
        refine z_topi (y := sumN (fun c => bitI zm (nI c) * cTold sx c) (kz + 1)) rfl ?_
        refine lv_istore_n (lv' := [(2, .int (sumN (fun c => bitI zm (nI c) * cTold sx c) (kz + 1))), (0, .ref (ad n)), (1, .int zm), (3, .int (nI kz))]) hx hb dX5_toldBy_23 rfl hl (by decide) rfl (fun ls hl => ?_)
        refine lv_iinc (v := nI (kz + 1)) (lv' := [(3, .int (nI (kz + 1))), (2, .int (sumN (fun c => bitI zm (nI c) * cTold sx c) (kz + 1))), (0, .ref (ad n)), (1, .int zm)]) hx hb dX5_toldBy_24 hl (k := 3) rfl (z_inc _) (by decide) rfl (fun ls hl => ?_)
        refine lv_goto (tgt := 4) hx hb dX5_toldBy_27 (by decide) ?_
        exact ih_4 (kz + 1) hk2 (by omega) _ _ _ hP hS  (lv_sub hl [2, 3, 1, 0] rfl)
  exact lp_4 _ 0 (Nat.zero_le _) (Nat.lt_succ_self _) _ _ _ hP hS  (lv_sub hl [2, 3, 1, 0] rfl)
set_option maxHeartbeats 4000000 in
set_option maxRecDepth 100000 in
theorem m_X5_setFor (l : Launch) {D : va_G} {cy : Nat → ClassId} {K : Nat} {ad : Nat → Nat} {g : Nat → va_E} (sz : Nat) {n : Nat} {sx az so ik sv tx kn lo : Nat → Int32} {th sm lz : Int32} {dg : Int64} {sum : Int32} (hM : isM cy K ad g n sx az so ik sv tx kn lo th sm lz dg) : Met l yX5_setFor (zs yX5_setFor cX5_setFor 4 (some .int)) ({ frames := 5, cells := 0, slots := 0, locals := 111 } : Room) (va_Pc [.ref (ad n), .int sum] (zIn D cy K ad g sz)) (va_Qi (fun r g1 => g1 = g ∧ r = sfF sx sum 127) (zOut D cy K ad sz) (zA K ad sz)) 0 0 (zA K ad sz) := by
  refine z_met (by decide) (Nat.le_of_ble_eq_true rfl) (fun p e s m below meth c ls hsz hl C0 hr hnm hP hS => ?_)
  subst hsz
  have hl : lv_has ls 4 [(0, .ref (ad n)), (1, .int sum)] := hl
  have hx := C0.1; have hb := C0.2.1; have hown := C0.2.2.2.1; have hts := C0.2.2.2.2.1
  refine lv_iconst (v := (-1)) hx hb dX5_setFor_0 (by decide) ?_
  refine lv_istore_n (lv' := [(2, .int (-1)), (0, .ref (ad n)), (1, .int sum)]) hx hb dX5_setFor_1 rfl hl (by decide) rfl (fun ls hl => ?_)
  refine lv_iconst (v := (nI (0 + 1))) hx hb dX5_setFor_2 (by decide) ?_
  refine lv_istore_n (lv' := [(3, .int (nI (0 + 1))), (2, .int (-1)), (0, .ref (ad n)), (1, .int sum)]) hx hb dX5_setFor_3 rfl hl (by decide) rfl (fun ls hl => ?_)
  have lp_4 : ∀ (N : Nat) (kz : Nat) (hk : kz ≤ 127), 127 - kz < N → ∀ (H : Heap) (locs : List Loc) (ls : Array Slot), zP D K ad g (zA K ad s.heap.size) H → va_S (zA K ad s.heap.size) s.heap H locs → lv_has ls 4 [(0, .ref (ad n)), (1, .int sum), (2, .int (sfF sx sum kz)), (3, .int (nI (kz + 1)))] → W p l e ({ frames := 5, cells := 0, slots := 0, locals := 111 } : Room) s m [.ref (ad n), .int sum].toArray below meth c H locs 0 0 (MQ below (va_Qi (fun r g1 => g1 = g ∧ r = sfF sx sum 127) (zOut D cy K ad s.heap.size) (zA K ad s.heap.size)) [.ref (ad n), .int sum].toArray s 0 0 (zA K ad s.heap.size)) (F0 m 4 ls []) := by
    intro N
    induction N with
    | zero => intro kz hk hN; exact absurd hN (Nat.not_lt_zero _)
    | succ N ih_4 =>
      intro kz hk hN H locs ls hP hS  hl
      refine lv_iload_n hx hb dX5_setFor_4 rfl (lv_at hl 3 rfl) ?_
      refine lv_sipush (v := 128) hx hb dX5_setFor_5 (by decide) ?_
      refine lv_icmp_ge (tgt := 48) hx hb dX5_setFor_8 (by decide) (fun c_8 => ?_) (fun c_8 => ?_)
      · have hk2 : kz = 127 := by have := z_ge_t (b := 128) c_8 (by omega) (by omega); omega
        subst hk2
        refine lv_iload_n hx hb dX5_setFor_48 rfl (lv_at hl 2 rfl) ?_
        exact z_iret C0 hP hS hr (⟨rfl, rfl⟩) dX5_setFor_49
      · have hk2 : kz + 1 ≤ 127 := by have := z_ge_f (b := 128) c_8 (by omega) (by omega); omega
        refine lv_aload_n hx hb dX5_setFor_11 rfl (lv_at hl 0 rfl) ?_
        refine lv_iload_n hx hb dX5_setFor_12 rfl (lv_at hl 3 rfl) ?_
        refine z_Vi_eq (As := [.int (nI (kz + 1))]) (rest := []) C0 hP hS hl.1 (m_X5_toldBy l _ hM) lk_X5_158 hM.n0 hM.o rfl rfl (Nat.le_of_ble_eq_true rfl) ⟨Nat.le_of_ble_eq_true rfl, Nat.le_of_ble_eq_true rfl⟩ rfl rfl ⟨Nat.zero_le _, Nat.zero_le _⟩ dX5_setFor_13 (fun H locs hP hS => ?_)
        refine lv_iload_n hx hb dX5_setFor_16 rfl (lv_at hl 1 rfl) ?_
        refine lv_icmp_ne (tgt := 40) hx hb dX5_setFor_17 (by decide) (fun c_17 => ?_) (fun c_17 => ?_)
        · refine lv_iload_n hx hb dX5_setFor_40 rfl (lv_at hl 2 rfl) ?_
          refine z_topi (y := sfF sx sum (kz + 1)) ((if_neg (fun q => c_17 q.1)).symm) ?_
          refine lv_istore_n (lv' := [(2, .int (sfF sx sum (kz + 1))), (0, .ref (ad n)), (1, .int sum), (3, .int (nI (kz + 1)))]) hx hb dX5_setFor_41 rfl hl (by decide) rfl (fun ls hl => ?_)
          refine lv_iinc (v := nI ((kz + 1) + 1)) (lv' := [(3, .int (nI ((kz + 1) + 1))), (2, .int (sfF sx sum (kz + 1))), (0, .ref (ad n)), (1, .int sum)]) hx hb dX5_setFor_42 hl (k := 3) rfl (z_inc _) (by decide) rfl (fun ls hl => ?_)
          refine lv_goto (tgt := 4) hx hb dX5_setFor_45 (by decide) ?_
          exact ih_4 (kz + 1) hk2 (by omega) _ _ _ hP hS  (lv_sub hl [2, 3, 1, 0] rfl)
        · refine lv_iload_n hx hb dX5_setFor_20 rfl (lv_at hl 2 rfl) ?_
          refine lv_iconst (v := (-1)) hx hb dX5_setFor_21 (by decide) ?_
          refine lv_icmp_eq (tgt := 36) hx hb dX5_setFor_22 (by decide) (fun c_22 => ?_) (fun c_22 => ?_)
          · refine lv_iload_n hx hb dX5_setFor_36 rfl (lv_at hl 3 rfl) ?_
            refine lv_goto (tgt := 41) hx hb dX5_setFor_37 (by decide) ?_
            refine z_topi (y := sfF sx sum (kz + 1)) ((if_pos ⟨c_17, Or.inl c_22⟩).symm) ?_
            refine lv_istore_n (lv' := [(2, .int (sfF sx sum (kz + 1))), (0, .ref (ad n)), (1, .int sum), (3, .int (nI (kz + 1)))]) hx hb dX5_setFor_41 rfl hl (by decide) rfl (fun ls hl => ?_)
            refine lv_iinc (v := nI ((kz + 1) + 1)) (lv' := [(3, .int (nI ((kz + 1) + 1))), (2, .int (sfF sx sum (kz + 1))), (0, .ref (ad n)), (1, .int sum)]) hx hb dX5_setFor_42 hl (k := 3) rfl (z_inc _) (by decide) rfl (fun ls hl => ?_)
            refine lv_goto (tgt := 4) hx hb dX5_setFor_45 (by decide) ?_
            exact ih_4 (kz + 1) hk2 (by omega) _ _ _ hP hS  (lv_sub hl [2, 3, 1, 0] rfl)
          · refine lv_iload_n hx hb dX5_setFor_25 rfl (lv_at hl 3 rfl) ?_
            refine z_Si_eq (As := [.int (nI (kz + 1))]) (rest := []) C0 hP hS hl.1 (m_X5_many l _ ) lk_X5_161 rfl rfl (Nat.le_of_ble_eq_true rfl) ⟨Nat.le_of_ble_eq_true rfl, Nat.le_of_ble_eq_true rfl⟩ rfl rfl ⟨Nat.zero_le _, Nat.zero_le _⟩ dX5_setFor_26 (fun H locs hP hS => ?_)
            refine lv_iload_n hx hb dX5_setFor_29 rfl (lv_at hl 2 rfl) ?_
            refine z_Si_eq (As := [.int (sfF sx sum kz)]) (rest := [.int (mnF (nI (kz + 1)))]) C0 hP hS hl.1 (m_X5_many l _ ) lk_X5_161 rfl rfl (Nat.le_of_ble_eq_true rfl) ⟨Nat.le_of_ble_eq_true rfl, Nat.le_of_ble_eq_true rfl⟩ rfl rfl ⟨Nat.zero_le _, Nat.zero_le _⟩ dX5_setFor_30 (fun H locs hP hS => ?_)
            refine lv_icmp_ge (tgt := 40) hx hb dX5_setFor_33 (by decide) (fun c_33 => ?_) (fun c_33 => ?_)
            · refine lv_iload_n hx hb dX5_setFor_40 rfl (lv_at hl 2 rfl) ?_
              refine z_topi (y := sfF sx sum (kz + 1)) ((if_neg (fun q => q.2.elim c_22 (fun q => absurd c_33 (Int32.not_le.mpr q)))).symm) ?_
              refine lv_istore_n (lv' := [(2, .int (sfF sx sum (kz + 1))), (0, .ref (ad n)), (1, .int sum), (3, .int (nI (kz + 1)))]) hx hb dX5_setFor_41 rfl hl (by decide) rfl (fun ls hl => ?_)
              refine lv_iinc (v := nI ((kz + 1) + 1)) (lv' := [(3, .int (nI ((kz + 1) + 1))), (2, .int (sfF sx sum (kz + 1))), (0, .ref (ad n)), (1, .int sum)]) hx hb dX5_setFor_42 hl (k := 3) rfl (z_inc _) (by decide) rfl (fun ls hl => ?_)
              refine lv_goto (tgt := 4) hx hb dX5_setFor_45 (by decide) ?_
              exact ih_4 (kz + 1) hk2 (by omega) _ _ _ hP hS  (lv_sub hl [2, 3, 1, 0] rfl)
            · refine lv_iload_n hx hb dX5_setFor_36 rfl (lv_at hl 3 rfl) ?_
              refine lv_goto (tgt := 41) hx hb dX5_setFor_37 (by decide) ?_
              refine z_topi (y := sfF sx sum (kz + 1)) ((if_pos ⟨c_17, Or.inr (Int32.not_le.mp c_33)⟩).symm) ?_
              refine lv_istore_n (lv' := [(2, .int (sfF sx sum (kz + 1))), (0, .ref (ad n)), (1, .int sum), (3, .int (nI (kz + 1)))]) hx hb dX5_setFor_41 rfl hl (by decide) rfl (fun ls hl => ?_)
              refine lv_iinc (v := nI ((kz + 1) + 1)) (lv' := [(3, .int (nI ((kz + 1) + 1))), (2, .int (sfF sx sum (kz + 1))), (0, .ref (ad n)), (1, .int sum)]) hx hb dX5_setFor_42 hl (k := 3) rfl (z_inc _) (by decide) rfl (fun ls hl => ?_)
              refine lv_goto (tgt := 4) hx hb dX5_setFor_45 (by decide) ?_
              exact ih_4 (kz + 1) hk2 (by omega) _ _ _ hP hS  (lv_sub hl [2, 3, 1, 0] rfl)
  exact lp_4 _ 0 (Nat.zero_le _) (Nat.lt_succ_self _) _ _ _ hP hS  (lv_sub hl [2, 3, 1, 0] rfl)
set_option maxHeartbeats 4000000 in
set_option maxRecDepth 100000 in
theorem m_X5_cordsFor (l : Launch) {D : va_G} {cy : Nat → ClassId} {K : Nat} {ad : Nat → Nat} {g : Nat → va_E} (sz : Nat) {n : Nat} {sx az so ik sv tx kn lo : Nat → Int32} {th sm lz : Int32} {dg : Int64} {sum : Int32} {wz : Nat} (hM : isM cy K ad g n sx az so ik sv tx kn lo th sm lz dg) (hs1 : ¬ sum < 1) (hs2 : sum ≤ 9999999) (hw : wz < 2) : Met l yX5_cordsFor (zs yX5_cordsFor cX5_cordsFor 3 (some .int)) ({ frames := 6, cells := 0, slots := 0, locals := 134 } : Room) (va_Pc [.ref (ad n), .int sum, .int (nI wz)] (zIn D cy K ad g sz)) (va_Qi (fun r g1 => r = sfF sx sum 127 ∧ isM cy K ad g1 n sx az so ik sv tx kn lo 0 sm lz dg ∧ zFr (zRg n (n + 9)) g g1) (zOut D cy K ad sz) (zA K ad sz)) 0 0 (zA K ad sz) := by
  refine z_met (by decide) (Nat.le_of_ble_eq_true rfl) (fun p e s m below meth c ls hsz hl C0 hr hnm hP hS => ?_)
  subst hsz
  have hl : lv_has ls 3 [(0, .ref (ad n)), (1, .int sum), (2, .int (nI wz))] := hl
  have hx := C0.1; have hb := C0.2.1; have hown := C0.2.2.2.1; have hts := C0.2.2.2.2.1
  have hFr : zFr (zRg n (n + 9)) g g := zFr.rf
  refine lv_aload_n hx hb dX5_cordsFor_0 rfl (lv_at hl 0 rfl) ?_
  refine lv_iload_n hx hb dX5_cordsFor_1 rfl (lv_at hl 1 rfl) ?_
  refine lv_iconst (v := 1) hx hb dX5_cordsFor_2 (by decide) ?_
  refine lv_ldc hx hb hown (hts _ q1040) dX5_cordsFor_3 ?_
  refine z_Si_eq (As := [.int sum, .int 1, .int 9999999]) (rest := [.ref (ad n)]) C0 hP hS hl.1 (m_X5_in l _ ) lk_X5_39 rfl rfl (Nat.le_of_ble_eq_true rfl) ⟨Nat.le_of_ble_eq_true rfl, Nat.le_of_ble_eq_true rfl⟩ rfl rfl ⟨Nat.zero_le _, Nat.zero_le _⟩ dX5_cordsFor_5 (fun H locs hP hS => ?_)
  refine z_topi (y := 1) (if_pos ⟨Int32.not_lt.mp hs1, hs2⟩) ?_
  refine lv_if_eq (tgt := 24) hx hb dX5_cordsFor_8 (by decide) (fun c_8 => absurd c_8 (by decide)) (fun c_8 => ?_)
  refine lv_iload_n hx hb dX5_cordsFor_11 rfl (lv_at hl 2 rfl) ?_
  refine lv_iconst (v := 0) hx hb dX5_cordsFor_12 (by decide) ?_
  refine lv_iconst (v := 1) hx hb dX5_cordsFor_13 (by decide) ?_
  refine z_Si_eq (As := [.int (nI wz), .int 0, .int 1]) (rest := [.ref (ad n)]) C0 hP hS hl.1 (m_X5_in l _ ) lk_X5_39 rfl rfl (Nat.le_of_ble_eq_true rfl) ⟨Nat.le_of_ble_eq_true rfl, Nat.le_of_ble_eq_true rfl⟩ rfl rfl ⟨Nat.zero_le _, Nat.zero_le _⟩ dX5_cordsFor_14 (fun H locs hP hS => ?_)
  refine z_topi (y := 1) (zc1' (m := 1) (by omega) (by decide)) ?_
  refine lv_if_eq (tgt := 24) hx hb dX5_cordsFor_17 (by decide) (fun c_17 => absurd c_17 (by decide)) (fun c_17 => ?_)
  refine lv_iconst (v := 0) hx hb dX5_cordsFor_20 (by decide) ?_
  refine lv_goto (tgt := 25) hx hb dX5_cordsFor_21 (by decide) ?_
  refine z_Vi_mo (As := [.int 0]) (rest := []) C0 hP hS hl.1 (m_X5_holds l _ hM) lk_X5_86 hM.n0 hM.o rfl rfl (Nat.le_of_ble_eq_true rfl) ⟨Nat.le_of_ble_eq_true rfl, Nat.le_of_ble_eq_true rfl⟩ rfl rfl ⟨Nat.zero_le _, Nat.zero_le _⟩ dX5_cordsFor_25 (fun r_25 g_1 H locs hP hS hp => ?_)
  obtain ⟨hr_25, hM, hF1⟩ := hp
  subst hr_25
  have hFr := hFr.tr (hF1.mono (by intro x9 hx9; first | (dsimp only [zOne, zRg, zCl] at hx9 ⊢; omega) | (dsimp only at hx9 ⊢; omega) | omega))
  refine z_topi (y := 1) (if_pos rfl) ?_
  refine lv_if_eq (tgt := 39) hx hb dX5_cordsFor_28 (by decide) (fun c_28 => absurd c_28 (by decide)) (fun c_28 => ?_)
  refine lv_aload_n hx hb dX5_cordsFor_31 rfl (lv_at hl 0 rfl) ?_
  refine lv_iload_n hx hb dX5_cordsFor_32 rfl (lv_at hl 1 rfl) ?_
  refine z_Vi_eq (As := [.int sum]) (rest := []) C0 hP hS hl.1 (m_X5_setFor l _ hM) lk_X5_165 hM.n0 hM.o rfl rfl (Nat.le_of_ble_eq_true rfl) ⟨Nat.le_of_ble_eq_true rfl, Nat.le_of_ble_eq_true rfl⟩ rfl rfl ⟨Nat.zero_le _, Nat.zero_le _⟩ dX5_cordsFor_33 (fun H locs hP hS => ?_)
  refine lv_goto (tgt := 40) hx hb dX5_cordsFor_36 (by decide) ?_
  exact z_iret C0 hP hS hr (⟨rfl, hM, hFr⟩) dX5_cordsFor_40
set_option maxHeartbeats 4000000 in
set_option maxRecDepth 100000 in
theorem m_X5_fullestOne (l : Launch) {D : va_G} {cy : Nat → ClassId} {K : Nat} {ad : Nat → Nat} {g : Nat → va_E} (sz : Nat) {n : Nat} {sx az so ik sv tx kn lo : Nat → Int32} {th sm lz : Int32} {dg : Int64}  (hM : isM cy K ad g n sx az so ik sv tx kn lo th sm lz dg) : Met l yX5_fullestOne (zs yX5_fullestOne cX5_fullestOne 3 (some .int)) ({ frames := 3, cells := 0, slots := 0, locals := 66 } : Room) (va_Pc [.ref (ad n)] (zIn D cy K ad g sz)) (va_Qi (fun r g1 => g1 = g ∧ r = nI (fulN sx 6)) (zOut D cy K ad sz) (zA K ad sz)) 0 0 (zA K ad sz) := by
  refine z_met (by decide) (Nat.le_of_ble_eq_true rfl) (fun p e s m below meth c ls hsz hl C0 hr hnm hP hS => ?_)
  subst hsz
  have hl : lv_has ls 3 [(0, .ref (ad n))] := hl
  have hx := C0.1; have hb := C0.2.1; have hown := C0.2.2.2.1; have hts := C0.2.2.2.2.1
  refine lv_iconst (v := (nI 0)) hx hb dX5_fullestOne_0 (by decide) ?_
  refine lv_istore_n (lv' := [(1, .int (nI 0)), (0, .ref (ad n))]) hx hb dX5_fullestOne_1 rfl hl (by decide) rfl (fun ls hl => ?_)
  refine lv_iconst (v := (nI (0 + 1))) hx hb dX5_fullestOne_2 (by decide) ?_
  refine lv_istore_n (lv' := [(2, .int (nI (0 + 1))), (1, .int (nI 0)), (0, .ref (ad n))]) hx hb dX5_fullestOne_3 rfl hl (by decide) rfl (fun ls hl => ?_)
  have lp_4 : ∀ (N : Nat) (kz : Nat) (hk : kz ≤ 6), 6 - kz < N → ∀ (H : Heap) (locs : List Loc) (ls : Array Slot), zP D K ad g (zA K ad s.heap.size) H → va_S (zA K ad s.heap.size) s.heap H locs → lv_has ls 3 [(0, .ref (ad n)), (1, .int (nI (fulN sx kz))), (2, .int (nI (kz + 1)))] → W p l e ({ frames := 3, cells := 0, slots := 0, locals := 66 } : Room) s m [.ref (ad n)].toArray below meth c H locs 0 0 (MQ below (va_Qi (fun r g1 => g1 = g ∧ r = nI (fulN sx 6)) (zOut D cy K ad s.heap.size) (zA K ad s.heap.size)) [.ref (ad n)].toArray s 0 0 (zA K ad s.heap.size)) (F0 m 4 ls []) := by
    intro N
    induction N with
    | zero => intro kz hk hN; exact absurd hN (Nat.not_lt_zero _)
    | succ N ih_4 =>
      intro kz hk hN H locs ls hP hS  hl
      refine lv_iload_n hx hb dX5_fullestOne_4 rfl (lv_at hl 2 rfl) ?_
      refine lv_bipush (v := 7) hx hb dX5_fullestOne_5 (by decide) ?_
      refine lv_icmp_ge (tgt := 35) hx hb dX5_fullestOne_7 (by decide) (fun c_7 => ?_) (fun c_7 => ?_)
      · have hk2 : kz = 6 := by have := z_ge_t (b := 7) c_7 (by omega) (by omega); omega
        subst hk2
        refine lv_iload_n hx hb dX5_fullestOne_35 rfl (lv_at hl 1 rfl) ?_
        exact z_iret C0 hP hS hr (⟨rfl, rfl⟩) dX5_fullestOne_36
      · have hk2 : kz + 1 ≤ 6 := by have := z_ge_f (b := 7) c_7 (by omega) (by omega); omega
        have hfu := fulN_le sx kz
        refine lv_aload_n hx hb dX5_fullestOne_10 rfl (lv_at hl 0 rfl) ?_
        refine lv_iload_n hx hb dX5_fullestOne_11 rfl (lv_at hl 2 rfl) ?_
        refine z_Vi_eq (As := [.int (nI (kz + 1))]) (rest := []) C0 hP hS hl.1 (m_X5_ties l _ hM (by omega)) lk_X5_63 hM.n0 hM.o rfl rfl (Nat.le_of_ble_eq_true rfl) ⟨Nat.le_of_ble_eq_true rfl, Nat.le_of_ble_eq_true rfl⟩ rfl rfl ⟨Nat.zero_le _, Nat.zero_le _⟩ dX5_fullestOne_12 (fun H locs hP hS => ?_)
        refine lv_aload_n hx hb dX5_fullestOne_15 rfl (lv_at hl 0 rfl) ?_
        refine lv_iload_n hx hb dX5_fullestOne_16 rfl (lv_at hl 1 rfl) ?_
        refine z_Vi_eq (As := [.int (nI (fulN sx kz))]) (rest := [.int (cTies sx (kz + 1))]) C0 hP hS hl.1 (m_X5_ties l _ hM (by omega)) lk_X5_63 hM.n0 hM.o rfl rfl (Nat.le_of_ble_eq_true rfl) ⟨Nat.le_of_ble_eq_true rfl, Nat.le_of_ble_eq_true rfl⟩ rfl rfl ⟨Nat.zero_le _, Nat.zero_le _⟩ dX5_fullestOne_17 (fun H locs hP hS => ?_)
        refine lv_icmp_le (tgt := 27) hx hb dX5_fullestOne_20 (by decide) (fun c_20 => ?_) (fun c_20 => ?_)
        · refine lv_iload_n hx hb dX5_fullestOne_27 rfl (lv_at hl 1 rfl) ?_
          refine z_topi (y := nI (fulN sx (kz + 1))) (congrArg nI (by first | exact (if_pos c_20).symm | exact (if_neg c_20).symm)) ?_
          refine lv_istore_n (lv' := [(1, .int (nI (fulN sx (kz + 1)))), (0, .ref (ad n)), (2, .int (nI (kz + 1)))]) hx hb dX5_fullestOne_28 rfl hl (by decide) rfl (fun ls hl => ?_)
          refine lv_iinc (v := nI ((kz + 1) + 1)) (lv' := [(2, .int (nI ((kz + 1) + 1))), (1, .int (nI (fulN sx (kz + 1)))), (0, .ref (ad n))]) hx hb dX5_fullestOne_29 hl (k := 2) rfl (z_inc _) (by decide) rfl (fun ls hl => ?_)
          refine lv_goto (tgt := 4) hx hb dX5_fullestOne_32 (by decide) ?_
          exact ih_4 (kz + 1) hk2 (by omega) _ _ _ hP hS  (lv_sub hl [2, 1, 0] rfl)
        · refine lv_iload_n hx hb dX5_fullestOne_23 rfl (lv_at hl 2 rfl) ?_
          refine lv_goto (tgt := 28) hx hb dX5_fullestOne_24 (by decide) ?_
          refine z_topi (y := nI (fulN sx (kz + 1))) (congrArg nI (by first | exact (if_pos c_20).symm | exact (if_neg c_20).symm)) ?_
          refine lv_istore_n (lv' := [(1, .int (nI (fulN sx (kz + 1)))), (0, .ref (ad n)), (2, .int (nI (kz + 1)))]) hx hb dX5_fullestOne_28 rfl hl (by decide) rfl (fun ls hl => ?_)
          refine lv_iinc (v := nI ((kz + 1) + 1)) (lv' := [(2, .int (nI ((kz + 1) + 1))), (1, .int (nI (fulN sx (kz + 1)))), (0, .ref (ad n))]) hx hb dX5_fullestOne_29 hl (k := 2) rfl (z_inc _) (by decide) rfl (fun ls hl => ?_)
          refine lv_goto (tgt := 4) hx hb dX5_fullestOne_32 (by decide) ?_
          exact ih_4 (kz + 1) hk2 (by omega) _ _ _ hP hS  (lv_sub hl [2, 1, 0] rfl)
  exact lp_4 _ 0 (Nat.zero_le _) (Nat.lt_succ_self _) _ _ _ hP hS  (lv_sub hl [2, 1, 0] rfl)
set_option maxHeartbeats 4000000 in
set_option maxRecDepth 100000 in
theorem m_X5_fullest (l : Launch) {D : va_G} {cy : Nat → ClassId} {K : Nat} {ad : Nat → Nat} {g : Nat → va_E} (sz : Nat) {n : Nat} {sx az so ik sv tx kn lo : Nat → Int32} {th sm lz : Int32} {dg : Int64}  (hM : isM cy K ad g n sx az so ik sv tx kn lo th sm lz dg) : Met l yX5_fullest (zs yX5_fullest cX5_fullest 1 (some .int)) ({ frames := 4, cells := 0, slots := 0, locals := 88 } : Room) (va_Pc [.ref (ad n)] (zIn D cy K ad g sz)) (va_Qi (fun r g1 => r = nI (fulN sx 6) ∧ isM cy K ad g1 n sx az so ik sv tx kn lo 0 sm lz dg ∧ zFr (zRg n (n + 9)) g g1) (zOut D cy K ad sz) (zA K ad sz)) 0 0 (zA K ad sz) := by
  refine z_met (by decide) (Nat.le_of_ble_eq_true rfl) (fun p e s m below meth c ls hsz hl C0 hr hnm hP hS => ?_)
  subst hsz
  have hl : lv_has ls 1 [(0, .ref (ad n))] := hl
  have hx := C0.1; have hb := C0.2.1; have hown := C0.2.2.2.1; have hts := C0.2.2.2.2.1
  have hFr : zFr (zRg n (n + 9)) g g := zFr.rf
  refine lv_aload_n hx hb dX5_fullest_0 rfl (lv_at hl 0 rfl) ?_
  refine lv_iconst (v := 0) hx hb dX5_fullest_1 (by decide) ?_
  refine zp_M_th C0 hP hS hM hFr (by first | rfl | (dsimp only [zOne, zRg, zCl]; omega) | (dsimp only; omega) | omega) fp_X5_35 dX5_fullest_2 (fun g_1 H locs hP hS hM hFr hF1 => ?_)
  refine lv_aload_n hx hb dX5_fullest_5 rfl (lv_at hl 0 rfl) ?_
  refine z_Vi_eq (As := []) (rest := []) C0 hP hS hl.1 (m_X5_fullestOne l _ hM) lk_X5_168 hM.n0 hM.o rfl rfl (Nat.le_of_ble_eq_true rfl) ⟨Nat.le_of_ble_eq_true rfl, Nat.le_of_ble_eq_true rfl⟩ rfl rfl ⟨Nat.zero_le _, Nat.zero_le _⟩ dX5_fullest_6 (fun H locs hP hS => ?_)
  exact z_iret C0 hP hS hr (⟨rfl, hM, hFr⟩) dX5_fullest_9
set_option maxHeartbeats 4000000 in
set_option maxRecDepth 100000 in
theorem m_X5_share (l : Launch) {D : va_G} {cy : Nat → ClassId} {K : Nat} {ad : Nat → Nat} {g : Nat → va_E} (sz : Nat) {n : Nat} {sx az so ik sv tx kn lo : Nat → Int32} {th sm lz : Int32} {dg : Int64}  (hM : isM cy K ad g n sx az so ik sv tx kn lo th sm lz dg) : Met l yX5_share (zs yX5_share cX5_share 4 (some .double)) ({ frames := 3, cells := 0, slots := 0, locals := 66 } : Room) (va_Pc [.ref (ad n)] (zIn D cy K ad g sz)) (va_Qd (fun r g1 => g1 = g ∧ r = shaF (shA sx) (shB sx)) (zOut D cy K ad sz) (zA K ad sz)) 0 0 (zA K ad sz) := by
  refine z_met (by decide) (Nat.le_of_ble_eq_true rfl) (fun p e s m below meth c ls hsz hl C0 hr hnm hP hS => ?_)
  subst hsz
  have hl : lv_has ls 4 [(0, .ref (ad n))] := hl
  have hx := C0.1; have hb := C0.2.1; have hown := C0.2.2.2.1; have hts := C0.2.2.2.2.1
  refine lv_iconst (v := 0) hx hb dX5_share_0 (by decide) ?_
  refine lv_istore_n (lv' := [(1, .int 0), (0, .ref (ad n))]) hx hb dX5_share_1 rfl hl (by decide) rfl (fun ls hl => ?_)
  refine lv_iconst (v := 0) hx hb dX5_share_2 (by decide) ?_
  refine lv_istore_n (lv' := [(2, .int 0), (1, .int 0), (0, .ref (ad n))]) hx hb dX5_share_3 rfl hl (by decide) rfl (fun ls hl => ?_)
  refine lv_iconst (v := 0) hx hb dX5_share_4 (by decide) ?_
  refine lv_istore_n (lv' := [(3, .int 0), (2, .int 0), (1, .int 0), (0, .ref (ad n))]) hx hb dX5_share_5 rfl hl (by decide) rfl (fun ls hl => ?_)
  have lp_6 : ∀ (N : Nat) (kz : Nat) (hk : kz ≤ 7), 7 - kz < N → ∀ (H : Heap) (locs : List Loc) (ls : Array Slot), zP D K ad g (zA K ad s.heap.size) H → va_S (zA K ad s.heap.size) s.heap H locs → lv_has ls 4 [(0, .ref (ad n)), (1, .int (sumN (fun c => 10 * sumN (fL sx c) 6) kz)), (2, .int (sumN (fun c => cTies sx c - sumN (fL sx c) 6) kz)), (3, .int (nI kz))] → W p l e ({ frames := 3, cells := 0, slots := 0, locals := 66 } : Room) s m [.ref (ad n)].toArray below meth c H locs 0 0 (MQ below (va_Qd (fun r g1 => g1 = g ∧ r = shaF (shA sx) (shB sx)) (zOut D cy K ad s.heap.size) (zA K ad s.heap.size)) [.ref (ad n)].toArray s 0 0 (zA K ad s.heap.size)) (F0 m 6 ls []) := by
    intro N
    induction N with
    | zero => intro kz hk hN; exact absurd hN (Nat.not_lt_zero _)
    | succ N ih_6 =>
      intro kz hk hN H locs ls hP hS  hl
      refine lv_iload_n hx hb dX5_share_6 rfl (lv_at hl 3 rfl) ?_
      refine lv_bipush (v := 7) hx hb dX5_share_7 (by decide) ?_
      refine lv_icmp_ge (tgt := 43) hx hb dX5_share_9 (by decide) (fun c_9 => ?_) (fun c_9 => ?_)
      · have hk2 : kz = 7 := by have := z_ge_t (b := 7) c_9 (by omega) (by omega); omega
        subst hk2
        refine lv_iload_n hx hb dX5_share_43 rfl (lv_at hl 2 rfl) ?_
        refine lv_if_ne (tgt := 51) hx hb dX5_share_44 (by decide) (fun c_44 => ?_) (fun c_44 => ?_)
        · refine lv_iload_n hx hb dX5_share_51 rfl (lv_at hl 1 rfl) ?_
          refine lv_i2d hx hb dX5_share_52 ?_
          refine lv_iload_n hx hb dX5_share_53 rfl (lv_at hl 2 rfl) ?_
          refine lv_i2d hx hb dX5_share_54 ?_
          refine lv_ddiv hx hb dX5_share_55 (n64_of (div_ok c_44)) ?_
          exact z_dret C0 hP hS hr (⟨rfl, (if_neg c_44).symm⟩) dX5_share_56
        · refine lv_dconst0 hx hb dX5_share_47 ?_
          refine lv_goto (tgt := 56) hx hb dX5_share_48 (by decide) ?_
          exact z_dret C0 hP hS hr (⟨rfl, (if_pos c_44).symm⟩) dX5_share_56
      · have hk2 : kz < 7 := z_ge_f (b := 7) c_9 (by omega) (by omega)
        refine lv_iload_n hx hb dX5_share_12 rfl (lv_at hl 1 rfl) ?_
        refine lv_bipush (v := 10) hx hb dX5_share_13 (by decide) ?_
        refine lv_aload_n hx hb dX5_share_15 rfl (lv_at hl 0 rfl) ?_
        refine lv_iload_n hx hb dX5_share_16 rfl (lv_at hl 3 rfl) ?_
        refine z_Vi_eq (As := [.int (nI kz)]) (rest := [.int 10, .int (sumN (fun c => 10 * sumN (fL sx c) 6) kz)]) C0 hP hS hl.1 (m_X5_loopsOf l _ hM hk2) lk_X5_130 hM.n0 hM.o rfl rfl (Nat.le_of_ble_eq_true rfl) ⟨Nat.le_of_ble_eq_true rfl, Nat.le_of_ble_eq_true rfl⟩ rfl rfl ⟨Nat.zero_le _, Nat.zero_le _⟩ dX5_share_17 (fun H locs hP hS => ?_)
        refine lv_imul hx hb dX5_share_20 ?_
        refine lv_iadd hx hb dX5_share_21 ?_
        refine z_topi (y := sumN (fun c => 10 * sumN (fL sx c) 6) (kz + 1)) rfl ?_
        refine lv_istore_n (lv' := [(1, .int (sumN (fun c => 10 * sumN (fL sx c) 6) (kz + 1))), (0, .ref (ad n)), (2, .int (sumN (fun c => cTies sx c - sumN (fL sx c) 6) kz)), (3, .int (nI kz))]) hx hb dX5_share_22 rfl hl (by decide) rfl (fun ls hl => ?_)
        refine lv_iload_n hx hb dX5_share_23 rfl (lv_at hl 2 rfl) ?_
        refine lv_aload_n hx hb dX5_share_24 rfl (lv_at hl 1 rfl) ?_
        refine lv_iload_n hx hb dX5_share_25 rfl (lv_at hl 3 rfl) ?_
        refine z_Vi_eq (As := [.int (nI kz)]) (rest := [.int (sumN (fun c => cTies sx c - sumN (fL sx c) 6) kz)]) C0 hP hS hl.1 (m_X5_ties l _ hM hk2) lk_X5_63 hM.n0 hM.o rfl rfl (Nat.le_of_ble_eq_true rfl) ⟨Nat.le_of_ble_eq_true rfl, Nat.le_of_ble_eq_true rfl⟩ rfl rfl ⟨Nat.zero_le _, Nat.zero_le _⟩ dX5_share_26 (fun H locs hP hS => ?_)
        refine lv_aload_n hx hb dX5_share_29 rfl (lv_at hl 1 rfl) ?_
        refine lv_iload_n hx hb dX5_share_30 rfl (lv_at hl 3 rfl) ?_
        refine z_Vi_eq (As := [.int (nI kz)]) (rest := [.int (cTies sx kz), .int (sumN (fun c => cTies sx c - sumN (fL sx c) 6) kz)]) C0 hP hS hl.1 (m_X5_loopsOf l _ hM hk2) lk_X5_130 hM.n0 hM.o rfl rfl (Nat.le_of_ble_eq_true rfl) ⟨Nat.le_of_ble_eq_true rfl, Nat.le_of_ble_eq_true rfl⟩ rfl rfl ⟨Nat.zero_le _, Nat.zero_le _⟩ dX5_share_31 (fun H locs hP hS => ?_)
        refine lv_isub hx hb dX5_share_34 ?_
        refine lv_iadd hx hb dX5_share_35 ?_
        refine z_topi (y := sumN (fun c => cTies sx c - sumN (fL sx c) 6) (kz + 1)) rfl ?_
        refine lv_istore_n (lv' := [(2, .int (sumN (fun c => cTies sx c - sumN (fL sx c) 6) (kz + 1))), (1, .int (sumN (fun c => 10 * sumN (fL sx c) 6) (kz + 1))), (0, .ref (ad n)), (3, .int (nI kz))]) hx hb dX5_share_36 rfl hl (by decide) rfl (fun ls hl => ?_)
        refine lv_iinc (v := nI (kz + 1)) (lv' := [(3, .int (nI (kz + 1))), (2, .int (sumN (fun c => cTies sx c - sumN (fL sx c) 6) (kz + 1))), (1, .int (sumN (fun c => 10 * sumN (fL sx c) 6) (kz + 1))), (0, .ref (ad n))]) hx hb dX5_share_37 hl (k := 3) rfl (z_inc _) (by decide) rfl (fun ls hl => ?_)
        refine lv_goto (tgt := 6) hx hb dX5_share_40 (by decide) ?_
        exact ih_6 (kz + 1) hk2 (by omega) _ _ _ hP hS  (lv_sub hl [3, 2, 1, 0] rfl)
  exact lp_6 _ 0 (Nat.zero_le _) (Nat.lt_succ_self _) _ _ _ hP hS  (lv_sub hl [3, 2, 1, 0] rfl)
set_option maxHeartbeats 4000000 in
set_option maxRecDepth 100000 in
theorem m_X5_closedShare (l : Launch) {D : va_G} {cy : Nat → ClassId} {K : Nat} {ad : Nat → Nat} {g : Nat → va_E} (sz : Nat) {n : Nat} {sx az so ik sv tx kn lo : Nat → Int32} {th sm lz : Int32} {dg : Int64}  (hM : isM cy K ad g n sx az so ik sv tx kn lo th sm lz dg) : Met l yX5_closedShare (zs yX5_closedShare cX5_closedShare 1 (some .double)) ({ frames := 4, cells := 0, slots := 0, locals := 89 } : Room) (va_Pc [.ref (ad n)] (zIn D cy K ad g sz)) (va_Qd (fun r g1 => r = shaF (shA sx) (shB sx) ∧ isM cy K ad g1 n sx az so ik sv tx kn lo 0 sm lz dg ∧ zFr (zRg n (n + 9)) g g1) (zOut D cy K ad sz) (zA K ad sz)) 0 0 (zA K ad sz) := by
  refine z_met (by decide) (Nat.le_of_ble_eq_true rfl) (fun p e s m below meth c ls hsz hl C0 hr hnm hP hS => ?_)
  subst hsz
  have hl : lv_has ls 1 [(0, .ref (ad n))] := hl
  have hx := C0.1; have hb := C0.2.1; have hown := C0.2.2.2.1; have hts := C0.2.2.2.2.1
  have hFr : zFr (zRg n (n + 9)) g g := zFr.rf
  refine lv_aload_n hx hb dX5_closedShare_0 rfl (lv_at hl 0 rfl) ?_
  refine lv_iconst (v := 0) hx hb dX5_closedShare_1 (by decide) ?_
  refine zp_M_th C0 hP hS hM hFr (by first | rfl | (dsimp only [zOne, zRg, zCl]; omega) | (dsimp only; omega) | omega) fp_X5_35 dX5_closedShare_2 (fun g_1 H locs hP hS hM hFr hF1 => ?_)
  refine lv_aload_n hx hb dX5_closedShare_5 rfl (lv_at hl 0 rfl) ?_
  refine z_Vd_eq (As := []) (rest := []) C0 hP hS hl.1 (m_X5_share l _ hM) lk_X5_171 hM.n0 hM.o rfl rfl (Nat.le_of_ble_eq_true rfl) ⟨Nat.le_of_ble_eq_true rfl, Nat.le_of_ble_eq_true rfl⟩ rfl rfl ⟨Nat.zero_le _, Nat.zero_le _⟩ dX5_closedShare_6 (fun H locs hP hS => ?_)
  exact z_dret C0 hP hS hr (⟨rfl, hM, hFr⟩) dX5_closedShare_9
set_option maxHeartbeats 4000000 in
set_option maxRecDepth 100000 in
theorem m_X5_bitsOf (l : Launch) {D : va_G} {cy : Nat → ClassId} {K : Nat} {ad : Nat → Nat} {g : Nat → va_E} (sz : Nat) {dz : UInt64} {bz : Nat} (hd : FP.Core.dIsNaN dz = false) (hbz : bz < 1023) (hB : ¬ Op.cmpValue (FP.dcmp dz FP.dconst0) CmpOp.l = 0 → ¬ lt1 (itD dz (nD dz bz))) : Met l yX5_bitsOf (zs yX5_bitsOf cX5_bitsOf 6 (some .long)) ({ frames := 0, cells := 0, slots := 0, locals := 0 } : Room) (va_Pc [.double dz] (zIn D cy K ad g sz)) (va_Ql (fun r g1 => g1 = g ∧ r = bitsM dz bz) (zOut D cy K ad sz) (zA K ad sz)) 0 0 (zA K ad sz) := by
  refine z_met (by decide) (Nat.le_of_ble_eq_true rfl) (fun p e s m below meth c ls hsz hl C0 hr hnm hP hS => ?_)
  subst hsz
  have hl : lv_has ls 6 [(0, .double dz)] := hl
  have hx := C0.1; have hb := C0.2.1; have hown := C0.2.2.2.1; have hts := C0.2.2.2.2.1
  refine lv_dload_n hx hb dX5_bitsOf_0 rfl (lv_at hl 0 rfl) ?_
  refine lv_dconst0 hx hb dX5_bitsOf_1 ?_
  refine lv_dcmp hx hb dX5_bitsOf_2 ?_
  refine lv_if_ne (tgt := 8) hx hb dX5_bitsOf_3 (by decide) (fun c_3 => ?_) (fun c_3 => ?_)
  · refine lv_ldc2 hx hb hown (hts _ q1085) dX5_bitsOf_8 ?_
    refine z_topl (y := expL 0) (by decide +kernel) ?_
    refine lv_lstore_n (lv' := [(2, .long (expL 0)), (0, .double dz)]) hx hb dX5_bitsOf_11 rfl hl (by decide) rfl (fun ls hl => ?_)
    refine lv_dload_n hx hb dX5_bitsOf_12 rfl (lv_at hl 1 rfl) ?_
    refine lv_dstore (lv' := [(4, .double dz), (2, .long (expL 0)), (0, .double dz)]) hx hb dX5_bitsOf_13 hl (by decide) rfl (fun ls hl => ?_)
    have lp_15 : ∀ (N : Nat) (kz : Nat) (hk : kz ≤ bz) (hn : nD dz kz = kz), bz - kz < N → ∀ (H : Heap) (locs : List Loc) (ls : Array Slot), zP D K ad g (zA K ad s.heap.size) H → va_S (zA K ad s.heap.size) s.heap H locs → lv_has ls 6 [(0, .double dz), (2, .long (expL kz)), (4, .double (itD dz kz))] → W p l e ({ frames := 0, cells := 0, slots := 0, locals := 0 } : Room) s m [.double dz].toArray below meth c H locs 0 0 (MQ below (va_Ql (fun r g1 => g1 = g ∧ r = bitsM dz bz) (zOut D cy K ad s.heap.size) (zA K ad s.heap.size)) [.double dz].toArray s 0 0 (zA K ad s.heap.size)) (F0 m 15 ls []) := by
      intro N
      induction N with
      | zero => intro kz hk hn hN; exact absurd hN (Nat.not_lt_zero _)
      | succ N ih_15 =>
        intro kz hk hn hN H locs ls hP hS  hl
        refine lv_dload hx hb dX5_bitsOf_15 (lv_at hl 2 rfl) ?_
        refine lv_dconst1 hx hb dX5_bitsOf_17 ?_
        refine lv_dcmp hx hb dX5_bitsOf_18 ?_
        refine lv_if_ge (tgt := 37) hx hb dX5_bitsOf_19 (by decide) (fun c_19 => ?_) (fun c_19 => ?_)
        · refine lv_lload_n hx hb dX5_bitsOf_37 rfl (lv_at hl 1 rfl) ?_
          refine lv_ldc2 hx hb hown (hts _ q1087) dX5_bitsOf_38 ?_
          refine lv_lmul hx hb dX5_bitsOf_41 ?_
          refine lv_dload hx hb dX5_bitsOf_42 (lv_at hl 2 rfl) ?_
          refine lv_dconst1 hx hb dX5_bitsOf_44 ?_
          refine lv_dsub hx hb dX5_bitsOf_45 (n64_of (sub_ok (itD_ok hd kz))) ?_
          refine lv_ldc2d hx hb hown (hts _ q1088) dX5_bitsOf_46 ?_
          refine lv_dmul hx hb dX5_bitsOf_49 (n64_of (frac_ok (itD_ok hd kz))) ?_
          refine lv_d2l hx hb dX5_bitsOf_50 ?_
          refine lv_ladd hx hb dX5_bitsOf_51 ?_
          exact z_lret C0 hP hS hr (⟨rfl, by unfold bitsM; rw [if_neg c_3, nD_at hn (fun q => q c_19) hk]; rfl⟩) dX5_bitsOf_52
        · have hk3 : kz < bz := Nat.lt_of_le_of_ne hk (fun e9 => hB c_3 (by rw [← e9, hn]; exact c_19))
          refine lv_dload hx hb dX5_bitsOf_22 (lv_at hl 2 rfl) ?_
          refine lv_ldc2d hx hb hown (hts _ q1086) dX5_bitsOf_24 ?_
          refine lv_dmul hx hb dX5_bitsOf_27 (n64_of (itD_ok hd (kz + 1))) ?_
          refine lv_dstore (lv' := [(4, .double (FP.dmul (itD dz kz) 4611686018427387904)), (0, .double dz), (2, .long (expL kz))]) hx hb dX5_bitsOf_28 hl (by decide) rfl (fun ls hl => ?_)
          refine lv_lload_n hx hb dX5_bitsOf_30 rfl (lv_at hl 2 rfl) ?_
          refine lv_lconst (v := 1) hx hb dX5_bitsOf_31 (by decide) ?_
          refine lv_lsub hx hb dX5_bitsOf_32 ?_
          refine z_topl (y := expL (kz + 1)) (expL_up kz (by omega)) ?_
          refine lv_lstore_n (lv' := [(2, .long (expL (kz + 1))), (4, .double (FP.dmul (itD dz kz) 4611686018427387904)), (0, .double dz)]) hx hb dX5_bitsOf_33 rfl hl (by decide) rfl (fun ls hl => ?_)
          refine lv_goto (tgt := 15) hx hb dX5_bitsOf_34 (by decide) ?_
          exact ih_15 (kz + 1) (by omega) (nD_up hn c_19) (by omega) _ _ _ hP hS  (lv_sub hl [2, 0, 1] rfl)
    exact lp_15 _ 0 (Nat.zero_le _) rfl (Nat.lt_succ_self _) _ _ _ hP hS  (lv_sub hl [2, 1, 0] rfl)
  · refine lv_lconst (v := 0) hx hb dX5_bitsOf_6 (by decide) ?_
    exact z_lret C0 hP hS hr (⟨rfl, (if_pos c_3).symm⟩) dX5_bitsOf_7
set_option maxHeartbeats 4000000 in
set_option maxRecDepth 100000 in
theorem m_X5_digestOne (l : Launch) {D : va_G} {cy : Nat → ClassId} {K : Nat} {ad : Nat → Nat} {g : Nat → va_E} (sz : Nat) {n : Nat} {sx az so ik sv tx kn lo : Nat → Int32} {th sm lz : Int32} {dg : Int64} {vz : Int64} (hM : isM cy K ad g n sx az so ik sv tx kn lo th sm lz dg) : Met l yX5_digestOne (zs yX5_digestOne cX5_digestOne 3 none) ({ frames := 0, cells := 0, slots := 0, locals := 0 } : Room) (va_Pc [.ref (ad n), .long vz] (zIn D cy K ad g sz)) (va_Qv (fun g1 => isM cy K ad g1 n sx az so ik sv tx kn lo th sm lz (mx dg vz) ∧ zFr (zRg n (n + 9)) g g1) (zOut D cy K ad sz) (zA K ad sz)) 0 0 (zA K ad sz) := by
  refine z_met (by decide) (Nat.le_of_ble_eq_true rfl) (fun p e s m below meth c ls hsz hl C0 hr hnm hP hS => ?_)
  subst hsz
  have hl : lv_has ls 3 [(0, .ref (ad n)), (1, .long vz)] := hl
  have hx := C0.1; have hb := C0.2.1; have hown := C0.2.2.2.1; have hts := C0.2.2.2.2.1
  have hFr : zFr (zRg n (n + 9)) g g := zFr.rf
  refine lv_aload_n hx hb dX5_digestOne_0 rfl (lv_at hl 0 rfl) ?_
  refine lv_ldc2 hx hb hown (hts _ q1077) dX5_digestOne_1 ?_
  refine lv_aload_n hx hb dX5_digestOne_4 rfl (lv_at hl 0 rfl) ?_
  refine z_get C0 hP hM.n0 hM.o fd_X5_185 rfl dX5_digestOne_5 ?_
  refine lv_lmul hx hb dX5_digestOne_8 ?_
  refine lv_lload_n hx hb dX5_digestOne_9 rfl (lv_at hl 1 rfl) ?_
  refine lv_ladd hx hb dX5_digestOne_10 ?_
  refine z_topl (y := mx dg vz) rfl ?_
  refine zp_M_dg C0 hP hS hM hFr (by first | rfl | (dsimp only [zOne, zRg, zCl]; omega) | (dsimp only; omega) | omega) fp_X5_185 dX5_digestOne_11 (fun g_1 H locs hP hS hM hFr hF1 => ?_)
  exact z_vret C0 hP hS hr (⟨hM, hFr⟩) dX5_digestOne_14
set_option maxHeartbeats 4000000 in
set_option maxRecDepth 100000 in
theorem m_X5_digestCord (l : Launch) {D : va_G} {cy : Nat → ClassId} {K : Nat} {ad : Nat → Nat} {g : Nat → va_E} (sz : Nat) {n : Nat} {sx az so ik sv tx kn lo : Nat → Int32} {th sm lz : Int32} {dg : Int64} {iz : Nat} (hM : isM cy K ad g n sx az so ik sv tx kn lo th sm lz dg) (hi : iz < 7) (hpc : pcOK sx) (hge : ∀ k, cRop (itT sx iz 95 k) iz 95 = 0 → 10 ≤ tieR (itT sx iz 95 k) iz 95) : Met l yX5_digestCord (zs yX5_digestCord cX5_digestCord 3 none) ({ frames := 8, cells := 0, slots := 0, locals := 184 } : Room) (va_Pc [.ref (ad n), .int (nI iz)] (zIn D cy K ad g sz)) (va_Qv (fun g1 => (∃ az kn lo : Nat → Int32, isM cy K ad g1 n sx az so ik sv tx kn lo th sm lz (dmC sx iz dg)) ∧ zFr (zRg n (n + 9)) g g1) (zOut D cy K ad sz) (zA K ad sz)) 0 0 (zA K ad sz) := by
  refine z_met (by decide) (Nat.le_of_ble_eq_true rfl) (fun p e s m below meth c ls hsz hl C0 hr hnm hP hS => ?_)
  subst hsz
  have hl : lv_has ls 3 [(0, .ref (ad n)), (1, .int (nI iz))] := hl
  have hx := C0.1; have hb := C0.2.1; have hown := C0.2.2.2.1; have hts := C0.2.2.2.2.1
  have hFr : zFr (zRg n (n + 9)) g g := zFr.rf
  have hcm := (hpc iz hi).2
  refine lv_iconst (v := (nI 0)) hx hb dX5_digestCord_0 (by decide) ?_
  refine lv_istore_n (lv' := [(2, .int (nI 0)), (0, .ref (ad n)), (1, .int (nI iz))]) hx hb dX5_digestCord_1 rfl hl (by decide) rfl (fun ls hl => ?_)
  have lp_2 : ∀ (N : Nat) (kz : Nat) (hk : kz ≤ 8), 8 - kz < N → ∀ (g_1 : Nat → va_E) (H : Heap) (locs : List Loc) (ls : Array Slot), zP D K ad g_1 (zA K ad s.heap.size) H → va_S (zA K ad s.heap.size) s.heap H locs → isM cy K ad g_1 n sx az so ik sv tx kn lo th sm lz ((dmW sx iz dg kz)) → zFr (zRg n (n + 9)) g g_1 → lv_has ls 3 [(0, .ref (ad n)), (1, .int (nI iz)), (2, .int (nI kz))] → W p l e ({ frames := 8, cells := 0, slots := 0, locals := 184 } : Room) s m [.ref (ad n), .int (nI iz)].toArray below meth c H locs 0 0 (MQ below (va_Qv (fun g1 => (∃ az kn lo : Nat → Int32, isM cy K ad g1 n sx az so ik sv tx kn lo th sm lz (dmC sx iz dg)) ∧ zFr (zRg n (n + 9)) g g1) (zOut D cy K ad s.heap.size) (zA K ad s.heap.size)) [.ref (ad n), .int (nI iz)].toArray s 0 0 (zA K ad s.heap.size)) (F0 m 2 ls []) := by
    intro N
    induction N with
    | zero => intro kz hk hN; exact absurd hN (Nat.not_lt_zero _)
    | succ N ih_2 =>
      intro kz hk hN g_1 H locs ls hP hS hM hFr hl
      refine lv_iload_n hx hb dX5_digestCord_2 rfl (lv_at hl 2 rfl) ?_
      refine lv_bipush (v := 8) hx hb dX5_digestCord_3 (by decide) ?_
      refine lv_icmp_ge (tgt := 25) hx hb dX5_digestCord_5 (by decide) (fun c_5 => ?_) (fun c_5 => ?_)
      · have hk2 : kz = 8 := by have := z_ge_t (b := 8) c_5 (by omega) (by omega); omega
        subst hk2
        refine lv_iconst (v := (nI 0)) hx hb dX5_digestCord_25 (by decide) ?_
        refine lv_istore_n (lv' := [(2, .int (nI 0)), (0, .ref (ad n)), (1, .int (nI iz))]) hx hb dX5_digestCord_26 rfl hl (by decide) rfl (fun ls hl => ?_)
        have lp_27 : ∀ (N : Nat) (kz : Nat) (hk : kz ≤ 24), 24 - kz < N → ∀ (g_2 : Nat → va_E) (H : Heap) (locs : List Loc) (ls : Array Slot), zP D K ad g_2 (zA K ad s.heap.size) H → va_S (zA K ad s.heap.size) s.heap H locs → isM cy K ad g_2 n sx az so ik sv tx kn lo th sm lz ((dgP sx iz dg kz)) → zFr (zRg n (n + 9)) g g_2 → lv_has ls 3 [(0, .ref (ad n)), (1, .int (nI iz)), (2, .int (nI kz))] → W p l e ({ frames := 8, cells := 0, slots := 0, locals := 184 } : Room) s m [.ref (ad n), .int (nI iz)].toArray below meth c H locs 0 0 (MQ below (va_Qv (fun g1 => (∃ az kn lo : Nat → Int32, isM cy K ad g1 n sx az so ik sv tx kn lo th sm lz (dmC sx iz dg)) ∧ zFr (zRg n (n + 9)) g g1) (zOut D cy K ad s.heap.size) (zA K ad s.heap.size)) [.ref (ad n), .int (nI iz)].toArray s 0 0 (zA K ad s.heap.size)) (F0 m 27 ls []) := by
          intro N
          induction N with
          | zero => intro kz hk hN; exact absurd hN (Nat.not_lt_zero _)
          | succ N ih_27 =>
            intro kz hk hN g_2 H locs ls hP hS hM hFr hl
            refine lv_iload_n hx hb dX5_digestCord_27 rfl (lv_at hl 2 rfl) ?_
            refine lv_bipush (v := 24) hx hb dX5_digestCord_28 (by decide) ?_
            refine lv_icmp_ge (tgt := 55) hx hb dX5_digestCord_30 (by decide) (fun c_30 => ?_) (fun c_30 => ?_)
            · have hk2 : kz = 24 := by have := z_ge_t (b := 24) c_30 (by omega) (by omega); omega
              subst hk2
              refine lv_iconst (v := (nI 0)) hx hb dX5_digestCord_55 (by decide) ?_
              refine lv_istore_n (lv' := [(2, .int (nI 0)), (0, .ref (ad n)), (1, .int (nI iz))]) hx hb dX5_digestCord_56 rfl hl (by decide) rfl (fun ls hl => ?_)
              have lp_57 : ∀ (N : Nat) (kz : Nat) (hk : kz ≤ cm sx iz), cm sx iz - kz < N → ∀ (g_3 : Nat → va_E) (H : Heap) (locs : List Loc) (ls : Array Slot), zP D K ad g_3 (zA K ad s.heap.size) H → va_S (zA K ad s.heap.size) s.heap H locs → isM cy K ad g_3 n sx az so ik sv tx kn lo th sm lz ((dmR sx iz dg kz)) → zFr (zRg n (n + 9)) g g_3 → lv_has ls 3 [(0, .ref (ad n)), (1, .int (nI iz)), (2, .int (nI kz))] → W p l e ({ frames := 8, cells := 0, slots := 0, locals := 184 } : Room) s m [.ref (ad n), .int (nI iz)].toArray below meth c H locs 0 0 (MQ below (va_Qv (fun g1 => (∃ az kn lo : Nat → Int32, isM cy K ad g1 n sx az so ik sv tx kn lo th sm lz (dmC sx iz dg)) ∧ zFr (zRg n (n + 9)) g g1) (zOut D cy K ad s.heap.size) (zA K ad s.heap.size)) [.ref (ad n), .int (nI iz)].toArray s 0 0 (zA K ad s.heap.size)) (F0 m 57 ls []) := by
                intro N
                induction N with
                | zero => intro kz hk hN; exact absurd hN (Nat.not_lt_zero _)
                | succ N ih_57 =>
                  intro kz hk hN g_3 H locs ls hP hS hM hFr hl
                  refine lv_iload_n hx hb dX5_digestCord_57 rfl (lv_at hl 2 rfl) ?_
                  refine lv_aload_n hx hb dX5_digestCord_58 rfl (lv_at hl 0 rfl) ?_
                  refine lv_iload_n hx hb dX5_digestCord_59 rfl (lv_at hl 1 rfl) ?_
                  refine lv_iconst (v := (nI 1)) hx hb dX5_digestCord_60 (by decide) ?_
                  refine z_Vi_eq (As := [.int (nI iz), .int (nI 1)]) (rest := [.int (nI kz)]) C0 hP hS hl.1 (m_X5_of l _ hM hi (by omega)) lk_X5_50 hM.n0 hM.o rfl rfl (Nat.le_of_ble_eq_true rfl) ⟨Nat.le_of_ble_eq_true rfl, Nat.le_of_ble_eq_true rfl⟩ rfl rfl ⟨Nat.zero_le _, Nat.zero_le _⟩ dX5_digestCord_61 (fun H locs hP hS => ?_)
                  refine z_topi (y := nI (cm sx iz)) ((hpc iz hi).1) ?_
                  refine lv_icmp_ge (tgt := 86) hx hb dX5_digestCord_64 (by decide) (fun c_64 => ?_) (fun c_64 => ?_)
                  · have hk2 : kz = cm sx iz := by have := z_ge_t c_64 (by omega) (by omega); omega
                    rw [hk2] at hM
                    have hM : isM cy K ad g_3 n sx az so ik sv tx kn lo th sm lz ((dmR sx iz dg (cm sx iz))) := hM
                    refine lv_aload_n hx hb dX5_digestCord_86 rfl (lv_at hl 0 rfl) ?_
                    refine lv_aload_n hx hb dX5_digestCord_87 rfl (lv_at hl 0 rfl) ?_
                    refine lv_iload_n hx hb dX5_digestCord_88 rfl (lv_at hl 1 rfl) ?_
                    refine lv_sipush (v := 999) hx hb dX5_digestCord_89 (by decide) ?_
                    refine z_Vi_mo (As := [.int (nI iz), .int 999]) (rest := [.ref (ad n)]) C0 hP hS hl.1 (m_X5_reasonFor l _ hM hi hpc) lk_X5_70 hM.n0 hM.o rfl rfl (Nat.le_of_ble_eq_true rfl) ⟨Nat.le_of_ble_eq_true rfl, Nat.le_of_ble_eq_true rfl⟩ rfl rfl ⟨Nat.zero_le _, Nat.zero_le _⟩ dX5_digestCord_92 (fun r_92 g_4 H locs hP hS hp => ?_)
                    obtain ⟨hr_92, hM, hF1⟩ := hp
                    subst hr_92
                    have hFr := hFr.tr (hF1.mono (by intro x9 hx9; first | (dsimp only [zOne, zRg, zCl] at hx9 ⊢; omega) | (dsimp only at hx9 ⊢; omega) | omega))
                    refine lv_i2l hx hb dX5_digestCord_95 rfl ?_
                    refine z_Vv_mo (As := [.long ((cRop sx iz 999).toInt64)]) (rest := []) C0 hP hS hl.1 (m_X5_digestOne l _ hM) lk_X5_189 hM.n0 hM.o rfl rfl (Nat.le_of_ble_eq_true rfl) ⟨Nat.le_of_ble_eq_true rfl, Nat.le_of_ble_eq_true rfl⟩ rfl rfl ⟨Nat.zero_le _, Nat.zero_le _⟩ dX5_digestCord_96 (fun g_5 H locs hP hS hp => ?_)
                    obtain ⟨hM, hF1⟩ := hp
                    have hFr := hFr.tr (hF1.mono (by intro x9 hx9; first | (dsimp only [zOne, zRg, zCl] at hx9 ⊢; omega) | (dsimp only at hx9 ⊢; omega) | omega))
                    refine lv_aload_n hx hb dX5_digestCord_99 rfl (lv_at hl 0 rfl) ?_
                    refine lv_aload_n hx hb dX5_digestCord_100 rfl (lv_at hl 0 rfl) ?_
                    refine lv_iload_n hx hb dX5_digestCord_101 rfl (lv_at hl 1 rfl) ?_
                    refine lv_bipush (v := 95) hx hb dX5_digestCord_102 (by decide) ?_
                    refine z_Vi_mo (As := [.int (nI iz), .int 95]) (rest := [.ref (ad n)]) C0 hP hS hl.1 (m_X5_times l _ hM hi hpc hge) lk_X5_155 hM.n0 hM.o rfl rfl (Nat.le_of_ble_eq_true rfl) ⟨Nat.le_of_ble_eq_true rfl, Nat.le_of_ble_eq_true rfl⟩ rfl rfl ⟨Nat.zero_le _, Nat.zero_le _⟩ dX5_digestCord_104 (fun r_104 g_6 H locs hP hS hp => ?_)
                    obtain ⟨hr_104, ⟨az1, kn1, lo1, hM⟩, hF1⟩ := hp
                    subst hr_104
                    have hFr := hFr.tr (hF1.mono (by intro x9 hx9; first | (dsimp only [zOne, zRg, zCl] at hx9 ⊢; omega) | (dsimp only at hx9 ⊢; omega) | omega))
                    refine lv_i2l hx hb dX5_digestCord_107 rfl ?_
                    refine z_Vv_mo (As := [.long ((nI (hoM iz 95 (16 - cm sx iz) sx)).toInt64)]) (rest := []) C0 hP hS hl.1 (m_X5_digestOne l _ hM) lk_X5_189 hM.n0 hM.o rfl rfl (Nat.le_of_ble_eq_true rfl) ⟨Nat.le_of_ble_eq_true rfl, Nat.le_of_ble_eq_true rfl⟩ rfl rfl ⟨Nat.zero_le _, Nat.zero_le _⟩ dX5_digestCord_108 (fun g_7 H locs hP hS hp => ?_)
                    obtain ⟨hM, hF1⟩ := hp
                    have hFr := hFr.tr (hF1.mono (by intro x9 hx9; first | (dsimp only [zOne, zRg, zCl] at hx9 ⊢; omega) | (dsimp only at hx9 ⊢; omega) | omega))
                    have hM : isM cy K ad g_7 n sx az1 so ik sv tx kn1 lo1 th sm lz ((dmC sx iz dg)) := hM
                    exact z_vret C0 hP hS hr (⟨⟨_, _, _, hM⟩, hFr⟩) dX5_digestCord_111
                  · have hk2 : kz < cm sx iz := z_ge_f c_64 (by omega) (by omega)
                    refine lv_aload_n hx hb dX5_digestCord_67 rfl (lv_at hl 0 rfl) ?_
                    refine lv_aload_n hx hb dX5_digestCord_68 rfl (lv_at hl 0 rfl) ?_
                    refine lv_iload_n hx hb dX5_digestCord_69 rfl (lv_at hl 1 rfl) ?_
                    refine lv_iconst (v := 3) hx hb dX5_digestCord_70 (by decide) ?_
                    refine lv_iload_n hx hb dX5_digestCord_71 rfl (lv_at hl 2 rfl) ?_
                    refine lv_iadd hx hb dX5_digestCord_72 ?_
                    refine z_topi (y := nI (3 + kz)) (nI_add 3 kz) ?_
                    refine z_Vi_eq (As := [.int (nI iz), .int (nI (3 + kz))]) (rest := [.ref (ad n)]) C0 hP hS hl.1 (m_X5_of l _ hM hi (by omega)) lk_X5_50 hM.n0 hM.o rfl rfl (Nat.le_of_ble_eq_true rfl) ⟨Nat.le_of_ble_eq_true rfl, Nat.le_of_ble_eq_true rfl⟩ rfl rfl ⟨Nat.zero_le _, Nat.zero_le _⟩ dX5_digestCord_73 (fun H locs hP hS => ?_)
                    refine lv_i2l hx hb dX5_digestCord_76 rfl ?_
                    refine z_Vv_mo (As := [.long ((fP sx iz kz).toInt64)]) (rest := []) C0 hP hS hl.1 (m_X5_digestOne l _ hM) lk_X5_189 hM.n0 hM.o rfl rfl (Nat.le_of_ble_eq_true rfl) ⟨Nat.le_of_ble_eq_true rfl, Nat.le_of_ble_eq_true rfl⟩ rfl rfl ⟨Nat.zero_le _, Nat.zero_le _⟩ dX5_digestCord_77 (fun g_8 H locs hP hS hp => ?_)
                    obtain ⟨hM, hF1⟩ := hp
                    have hFr := hFr.tr (hF1.mono (by intro x9 hx9; first | (dsimp only [zOne, zRg, zCl] at hx9 ⊢; omega) | (dsimp only at hx9 ⊢; omega) | omega))
                    have hM : isM cy K ad g_8 n sx az so ik sv tx kn lo th sm lz ((dmR sx iz dg (kz + 1))) := hM
                    refine lv_iinc (v := nI (kz + 1)) (lv' := [(2, .int (nI (kz + 1))), (0, .ref (ad n)), (1, .int (nI iz))]) hx hb dX5_digestCord_80 hl (k := 2) rfl (z_inc _) (by decide) rfl (fun ls hl => ?_)
                    refine lv_goto (tgt := 57) hx hb dX5_digestCord_83 (by decide) ?_
                    exact ih_57 (kz + 1) hk2 (by omega) _ _ _ _ hP hS hM hFr (lv_sub hl [1, 2, 0] rfl)
              exact lp_57 _ 0 (Nat.zero_le _) (Nat.lt_succ_self _) _ _ _ _ hP hS hM hFr (lv_sub hl [1, 2, 0] rfl)
            · have hk2 : kz < 24 := z_ge_f (b := 24) c_30 (by omega) (by omega)
              refine lv_aload_n hx hb dX5_digestCord_33 rfl (lv_at hl 0 rfl) ?_
              refine lv_aload_n hx hb dX5_digestCord_34 rfl (lv_at hl 0 rfl) ?_
              refine lv_iload_n hx hb dX5_digestCord_35 rfl (lv_at hl 1 rfl) ?_
              refine lv_iload_n hx hb dX5_digestCord_36 rfl (lv_at hl 2 rfl) ?_
              refine lv_iconst (v := 4) hx hb dX5_digestCord_37 (by decide) ?_
              refine lv_idiv hx hb dX5_digestCord_38 (by decide) ?_
              refine z_topi (y := nI (kz / 4)) (pk_div (by omega) (by decide) (by decide)) ?_
              refine lv_iload_n hx hb dX5_digestCord_39 rfl (lv_at hl 2 rfl) ?_
              refine lv_iconst (v := 4) hx hb dX5_digestCord_40 (by decide) ?_
              refine lv_irem hx hb dX5_digestCord_41 (by decide) ?_
              refine z_topi (y := nI (kz % 4)) (pk_rem (by omega) (by decide) (by decide)) ?_
              refine z_Vi_eq (As := [.int (nI iz), .int (nI (kz / 4)), .int (nI (kz % 4))]) (rest := [.ref (ad n)]) C0 hP hS hl.1 (m_X5_atPlace l _ hM hi (by omega) (by omega)) lk_X5_136 hM.n0 hM.o rfl rfl (Nat.le_of_ble_eq_true rfl) ⟨Nat.le_of_ble_eq_true rfl, Nat.le_of_ble_eq_true rfl⟩ rfl rfl ⟨Nat.zero_le _, Nat.zero_le _⟩ dX5_digestCord_42 (fun H locs hP hS => ?_)
              refine lv_i2l hx hb dX5_digestCord_45 rfl ?_
              refine z_Vv_mo (As := [.long ((placeF sx iz (kz / 4) (kz % 4)).toInt64)]) (rest := []) C0 hP hS hl.1 (m_X5_digestOne l _ hM) lk_X5_189 hM.n0 hM.o rfl rfl (Nat.le_of_ble_eq_true rfl) ⟨Nat.le_of_ble_eq_true rfl, Nat.le_of_ble_eq_true rfl⟩ rfl rfl ⟨Nat.zero_le _, Nat.zero_le _⟩ dX5_digestCord_46 (fun g_9 H locs hP hS hp => ?_)
              obtain ⟨hM, hF1⟩ := hp
              have hFr := hFr.tr (hF1.mono (by intro x9 hx9; first | (dsimp only [zOne, zRg, zCl] at hx9 ⊢; omega) | (dsimp only at hx9 ⊢; omega) | omega))
              have hM : isM cy K ad g_9 n sx az so ik sv tx kn lo th sm lz ((dgP sx iz dg (kz + 1))) := hM
              refine lv_iinc (v := nI (kz + 1)) (lv' := [(2, .int (nI (kz + 1))), (0, .ref (ad n)), (1, .int (nI iz))]) hx hb dX5_digestCord_49 hl (k := 2) rfl (z_inc _) (by decide) rfl (fun ls hl => ?_)
              refine lv_goto (tgt := 27) hx hb dX5_digestCord_52 (by decide) ?_
              exact ih_27 (kz + 1) hk2 (by omega) _ _ _ _ hP hS hM hFr (lv_sub hl [1, 2, 0] rfl)
        exact lp_27 _ 0 (Nat.zero_le _) (Nat.lt_succ_self _) _ _ _ _ hP hS hM hFr (lv_sub hl [1, 2, 0] rfl)
      · have hk2 : kz < 8 := z_ge_f (b := 8) c_5 (by omega) (by omega)
        refine lv_aload_n hx hb dX5_digestCord_8 rfl (lv_at hl 0 rfl) ?_
        refine lv_aload_n hx hb dX5_digestCord_9 rfl (lv_at hl 0 rfl) ?_
        refine lv_iload_n hx hb dX5_digestCord_10 rfl (lv_at hl 1 rfl) ?_
        refine lv_iload_n hx hb dX5_digestCord_11 rfl (lv_at hl 2 rfl) ?_
        refine z_Vi_eq (As := [.int (nI iz), .int (nI kz)]) (rest := [.ref (ad n)]) C0 hP hS hl.1 (m_X5_number l _ hM hi hk2 hpc) lk_X5_133 hM.n0 hM.o rfl rfl (Nat.le_of_ble_eq_true rfl) ⟨Nat.le_of_ble_eq_true rfl, Nat.le_of_ble_eq_true rfl⟩ rfl rfl ⟨Nat.zero_le _, Nat.zero_le _⟩ dX5_digestCord_12 (fun H locs hP hS => ?_)
        refine lv_i2l hx hb dX5_digestCord_15 rfl ?_
        refine z_Vv_mo (As := [.long ((cordF sx iz kz).toInt64)]) (rest := []) C0 hP hS hl.1 (m_X5_digestOne l _ hM) lk_X5_189 hM.n0 hM.o rfl rfl (Nat.le_of_ble_eq_true rfl) ⟨Nat.le_of_ble_eq_true rfl, Nat.le_of_ble_eq_true rfl⟩ rfl rfl ⟨Nat.zero_le _, Nat.zero_le _⟩ dX5_digestCord_16 (fun g_10 H locs hP hS hp => ?_)
        obtain ⟨hM, hF1⟩ := hp
        have hFr := hFr.tr (hF1.mono (by intro x9 hx9; first | (dsimp only [zOne, zRg, zCl] at hx9 ⊢; omega) | (dsimp only at hx9 ⊢; omega) | omega))
        have hM : isM cy K ad g_10 n sx az so ik sv tx kn lo th sm lz ((dmW sx iz dg (kz + 1))) := hM
        refine lv_iinc (v := nI (kz + 1)) (lv' := [(2, .int (nI (kz + 1))), (0, .ref (ad n)), (1, .int (nI iz))]) hx hb dX5_digestCord_19 hl (k := 2) rfl (z_inc _) (by decide) rfl (fun ls hl => ?_)
        refine lv_goto (tgt := 2) hx hb dX5_digestCord_22 (by decide) ?_
        exact ih_2 (kz + 1) hk2 (by omega) _ _ _ _ hP hS hM hFr (lv_sub hl [1, 2, 0] rfl)
  exact lp_2 _ 0 (Nat.zero_le _) (Nat.lt_succ_self _) _ _ _ _ hP hS hM hFr (lv_sub hl [1, 2, 0] rfl)
set_option maxHeartbeats 4000000 in
set_option maxRecDepth 100000 in
theorem m_X5_digest (l : Launch) {D : va_G} {cy : Nat → ClassId} {K : Nat} {ad : Nat → Nat} {g : Nat → va_E} (sz : Nat) {n : Nat} {sx az so ik sv tx kn lo : Nat → Int32} {th sm : Int32} {dg : Int64} {lw bz : Nat} (hM : isM cy K ad g n sx az so ik sv tx kn lo th sm ((nI lw)) dg) (hpc : pcOK sx) (hgeA : ∀ iz, iz < 7 → ∀ k, cRop (itT sx iz 95 k) iz 95 = 0 → 10 ≤ tieR (itT sx iz 95 k) iz 95) (hln : lw ≤ 60) (hbz : bz < 1023) (hB : ¬ Op.cmpValue (FP.dcmp (shaF (shA sx) (shB sx)) FP.dconst0) CmpOp.l = 0 → ¬ lt1 (itD (shaF (shA sx) (shB sx)) (nD (shaF (shA sx) (shB sx)) bz))) : Met l yX5_digest (zs yX5_digest cX5_digest 2 (some .long)) ({ frames := 9, cells := 0, slots := 0, locals := 206 } : Room) (va_Pc [.ref (ad n)] (zIn D cy K ad g sz)) (va_Ql (fun r g1 => r = dm9 sx sm bz ik tx lw lw ∧ (∃ (az kn lo : Nat → Int32) (dg : Int64), isM cy K ad g1 n sx az so ik sv tx kn lo 0 sm (nI lw) dg) ∧ zFr (zRg n (n + 9)) g g1) (zOut D cy K ad sz) (zA K ad sz)) 0 0 (zA K ad sz) := by
  refine z_met (by decide) (Nat.le_of_ble_eq_true rfl) (fun p e s m below meth c ls hsz hl C0 hr hnm hP hS => ?_)
  subst hsz
  have hl : lv_has ls 2 [(0, .ref (ad n))] := hl
  have hx := C0.1; have hb := C0.2.1; have hown := C0.2.2.2.1; have hts := C0.2.2.2.2.1
  have hFr : zFr (zRg n (n + 9)) g g := zFr.rf
  refine lv_aload_n hx hb dX5_digest_0 rfl (lv_at hl 0 rfl) ?_
  refine lv_iconst (v := 0) hx hb dX5_digest_1 (by decide) ?_
  refine zp_M_th C0 hP hS hM hFr (by first | rfl | (dsimp only [zOne, zRg, zCl]; omega) | (dsimp only; omega) | omega) fp_X5_35 dX5_digest_2 (fun g_1 H locs hP hS hM hFr hF1 => ?_)
  refine lv_aload_n hx hb dX5_digest_5 rfl (lv_at hl 0 rfl) ?_
  refine lv_ldc2 hx hb hown (hts _ q1072) dX5_digest_6 ?_
  refine zp_M_dg C0 hP hS hM hFr (by first | rfl | (dsimp only [zOne, zRg, zCl]; omega) | (dsimp only; omega) | omega) fp_X5_185 dX5_digest_9 (fun g_2 H locs hP hS hM hFr hF1 => ?_)
  refine lv_iconst (v := (nI 0)) hx hb dX5_digest_12 (by decide) ?_
  refine lv_istore_n (lv' := [(1, .int (nI 0)), (0, .ref (ad n))]) hx hb dX5_digest_13 rfl hl (by decide) rfl (fun ls hl => ?_)
  have lp_14 : ∀ (N : Nat) (kz : Nat) (hk : kz ≤ 10), 10 - kz < N → ∀ (g_3 : Nat → va_E) (H : Heap) (locs : List Loc) (ls : Array Slot), zP D K ad g_3 (zA K ad s.heap.size) H → va_S (zA K ad s.heap.size) s.heap H locs → isM cy K ad g_3 n sx az so ik sv tx kn lo 0 sm ((nI lw)) ((dm1 sx sm kz)) → zFr (zRg n (n + 9)) g g_3 → lv_has ls 2 [(0, .ref (ad n)), (1, .int (nI kz))] → W p l e ({ frames := 9, cells := 0, slots := 0, locals := 206 } : Room) s m [.ref (ad n)].toArray below meth c H locs 0 0 (MQ below (va_Ql (fun r g1 => r = dm9 sx sm bz ik tx lw lw ∧ (∃ (az kn lo : Nat → Int32) (dg : Int64), isM cy K ad g1 n sx az so ik sv tx kn lo 0 sm (nI lw) dg) ∧ zFr (zRg n (n + 9)) g g1) (zOut D cy K ad s.heap.size) (zA K ad s.heap.size)) [.ref (ad n)].toArray s 0 0 (zA K ad s.heap.size)) (F0 m 14 ls []) := by
    intro N
    induction N with
    | zero => intro kz hk hN; exact absurd hN (Nat.not_lt_zero _)
    | succ N ih_14 =>
      intro kz hk hN g_3 H locs ls hP hS hM hFr hl
      refine lv_iload_n hx hb dX5_digest_14 rfl (lv_at hl 1 rfl) ?_
      refine lv_bipush (v := 10) hx hb dX5_digest_15 (by decide) ?_
      refine lv_icmp_ge (tgt := 36) hx hb dX5_digest_17 (by decide) (fun c_17 => ?_) (fun c_17 => ?_)
      · have hk2 : kz = 10 := by have := z_ge_t (b := 10) c_17 (by omega) (by omega); omega
        subst hk2
        refine lv_iconst (v := (nI 0)) hx hb dX5_digest_36 (by decide) ?_
        refine lv_istore_n (lv' := [(1, .int (nI 0)), (0, .ref (ad n))]) hx hb dX5_digest_37 rfl hl (by decide) rfl (fun ls hl => ?_)
        have lp_38 : ∀ (N : Nat) (kz : Nat) (a2 k2 l2 : Nat → Int32) (hk : kz ≤ 7), 7 - kz < N → ∀ (g_4 : Nat → va_E) (H : Heap) (locs : List Loc) (ls : Array Slot), zP D K ad g_4 (zA K ad s.heap.size) H → va_S (zA K ad s.heap.size) s.heap H locs → isM cy K ad g_4 n sx a2 so ik sv tx k2 l2 0 sm ((nI lw)) ((dmN sx (dm1 sx sm 10) kz)) → zFr (zRg n (n + 9)) g g_4 → lv_has ls 2 [(0, .ref (ad n)), (1, .int (nI kz))] → W p l e ({ frames := 9, cells := 0, slots := 0, locals := 206 } : Room) s m [.ref (ad n)].toArray below meth c H locs 0 0 (MQ below (va_Ql (fun r g1 => r = dm9 sx sm bz ik tx lw lw ∧ (∃ (az kn lo : Nat → Int32) (dg : Int64), isM cy K ad g1 n sx az so ik sv tx kn lo 0 sm (nI lw) dg) ∧ zFr (zRg n (n + 9)) g g1) (zOut D cy K ad s.heap.size) (zA K ad s.heap.size)) [.ref (ad n)].toArray s 0 0 (zA K ad s.heap.size)) (F0 m 38 ls []) := by
          intro N
          induction N with
          | zero => intro kz a2 k2 l2 hk hN; exact absurd hN (Nat.not_lt_zero _)
          | succ N ih_38 =>
            intro kz a2 k2 l2 hk hN g_4 H locs ls hP hS hM hFr hl
            refine lv_iload_n hx hb dX5_digest_38 rfl (lv_at hl 1 rfl) ?_
            refine lv_bipush (v := 7) hx hb dX5_digest_39 (by decide) ?_
            refine lv_icmp_ge (tgt := 55) hx hb dX5_digest_41 (by decide) (fun c_41 => ?_) (fun c_41 => ?_)
            · have hk2 : kz = 7 := by have := z_ge_t (b := 7) c_41 (by omega) (by omega); omega
              subst hk2
              refine lv_iconst (v := (nI 0)) hx hb dX5_digest_55 (by decide) ?_
              refine lv_istore_n (lv' := [(1, .int (nI 0)), (0, .ref (ad n))]) hx hb dX5_digest_56 rfl hl (by decide) rfl (fun ls hl => ?_)
              have lp_57 : ∀ (N : Nat) (kz : Nat) (hk : kz ≤ 6), 6 - kz < N → ∀ (g_5 : Nat → va_E) (H : Heap) (locs : List Loc) (ls : Array Slot), zP D K ad g_5 (zA K ad s.heap.size) H → va_S (zA K ad s.heap.size) s.heap H locs → isM cy K ad g_5 n sx a2 so ik sv tx k2 l2 0 sm ((nI lw)) ((dm3 sx sm kz)) → zFr (zRg n (n + 9)) g g_5 → lv_has ls 2 [(0, .ref (ad n)), (1, .int (nI kz))] → W p l e ({ frames := 9, cells := 0, slots := 0, locals := 206 } : Room) s m [.ref (ad n)].toArray below meth c H locs 0 0 (MQ below (va_Ql (fun r g1 => r = dm9 sx sm bz ik tx lw lw ∧ (∃ (az kn lo : Nat → Int32) (dg : Int64), isM cy K ad g1 n sx az so ik sv tx kn lo 0 sm (nI lw) dg) ∧ zFr (zRg n (n + 9)) g g1) (zOut D cy K ad s.heap.size) (zA K ad s.heap.size)) [.ref (ad n)].toArray s 0 0 (zA K ad s.heap.size)) (F0 m 57 ls []) := by
                intro N
                induction N with
                | zero => intro kz hk hN; exact absurd hN (Nat.not_lt_zero _)
                | succ N ih_57 =>
                  intro kz hk hN g_5 H locs ls hP hS hM hFr hl
                  refine lv_iload_n hx hb dX5_digest_57 rfl (lv_at hl 1 rfl) ?_
                  refine lv_bipush (v := 6) hx hb dX5_digest_58 (by decide) ?_
                  refine lv_icmp_ge (tgt := 79) hx hb dX5_digest_60 (by decide) (fun c_60 => ?_) (fun c_60 => ?_)
                  · have hk2 : kz = 6 := by have := z_ge_t (b := 6) c_60 (by omega) (by omega); omega
                    subst hk2
                    refine lv_aload_n hx hb dX5_digest_79 rfl (lv_at hl 0 rfl) ?_
                    refine lv_aload_n hx hb dX5_digest_80 rfl (lv_at hl 0 rfl) ?_
                    refine lv_bipush (v := 95) hx hb dX5_digest_81 (by decide) ?_
                    refine z_Vi_eq (As := [.int 95]) (rest := [.ref (ad n)]) C0 hP hS hl.1 (m_X5_setFor l _ hM) lk_X5_165 hM.n0 hM.o rfl rfl (Nat.le_of_ble_eq_true rfl) ⟨Nat.le_of_ble_eq_true rfl, Nat.le_of_ble_eq_true rfl⟩ rfl rfl ⟨Nat.zero_le _, Nat.zero_le _⟩ dX5_digest_83 (fun H locs hP hS => ?_)
                    refine lv_i2l hx hb dX5_digest_86 rfl ?_
                    refine z_Vv_mo (As := [.long ((sfF sx 95 127).toInt64)]) (rest := []) C0 hP hS hl.1 (m_X5_digestOne l _ hM) lk_X5_189 hM.n0 hM.o rfl rfl (Nat.le_of_ble_eq_true rfl) ⟨Nat.le_of_ble_eq_true rfl, Nat.le_of_ble_eq_true rfl⟩ rfl rfl ⟨Nat.zero_le _, Nat.zero_le _⟩ dX5_digest_87 (fun g_6 H locs hP hS hp => ?_)
                    obtain ⟨hM, hF1⟩ := hp
                    have hFr := hFr.tr (hF1.mono (by intro x9 hx9; first | (dsimp only [zOne, zRg, zCl] at hx9 ⊢; omega) | (dsimp only at hx9 ⊢; omega) | omega))
                    refine lv_aload_n hx hb dX5_digest_90 rfl (lv_at hl 0 rfl) ?_
                    refine lv_aload_n hx hb dX5_digest_91 rfl (lv_at hl 0 rfl) ?_
                    refine lv_bipush (v := 95) hx hb dX5_digest_92 (by decide) ?_
                    refine z_Vi_eq (As := [.int 95]) (rest := [.ref (ad n)]) C0 hP hS hl.1 (m_X5_setFor l _ hM) lk_X5_165 hM.n0 hM.o rfl rfl (Nat.le_of_ble_eq_true rfl) ⟨Nat.le_of_ble_eq_true rfl, Nat.le_of_ble_eq_true rfl⟩ rfl rfl ⟨Nat.zero_le _, Nat.zero_le _⟩ dX5_digest_94 (fun H locs hP hS => ?_)
                    refine lv_i2l hx hb dX5_digest_97 rfl ?_
                    refine z_Vv_mo (As := [.long ((sfF sx 95 127).toInt64)]) (rest := []) C0 hP hS hl.1 (m_X5_digestOne l _ hM) lk_X5_189 hM.n0 hM.o rfl rfl (Nat.le_of_ble_eq_true rfl) ⟨Nat.le_of_ble_eq_true rfl, Nat.le_of_ble_eq_true rfl⟩ rfl rfl ⟨Nat.zero_le _, Nat.zero_le _⟩ dX5_digest_98 (fun g_7 H locs hP hS hp => ?_)
                    obtain ⟨hM, hF1⟩ := hp
                    have hFr := hFr.tr (hF1.mono (by intro x9 hx9; first | (dsimp only [zOne, zRg, zCl] at hx9 ⊢; omega) | (dsimp only at hx9 ⊢; omega) | omega))
                    refine lv_aload_n hx hb dX5_digest_101 rfl (lv_at hl 0 rfl) ?_
                    refine lv_aload_n hx hb dX5_digest_102 rfl (lv_at hl 0 rfl) ?_
                    refine lv_sipush (v := 1234) hx hb dX5_digest_103 (by decide) ?_
                    refine z_Vi_eq (As := [.int 1234]) (rest := [.ref (ad n)]) C0 hP hS hl.1 (m_X5_setFor l _ hM) lk_X5_165 hM.n0 hM.o rfl rfl (Nat.le_of_ble_eq_true rfl) ⟨Nat.le_of_ble_eq_true rfl, Nat.le_of_ble_eq_true rfl⟩ rfl rfl ⟨Nat.zero_le _, Nat.zero_le _⟩ dX5_digest_106 (fun H locs hP hS => ?_)
                    refine lv_i2l hx hb dX5_digest_109 rfl ?_
                    refine z_Vv_mo (As := [.long ((sfF sx 1234 127).toInt64)]) (rest := []) C0 hP hS hl.1 (m_X5_digestOne l _ hM) lk_X5_189 hM.n0 hM.o rfl rfl (Nat.le_of_ble_eq_true rfl) ⟨Nat.le_of_ble_eq_true rfl, Nat.le_of_ble_eq_true rfl⟩ rfl rfl ⟨Nat.zero_le _, Nat.zero_le _⟩ dX5_digest_110 (fun g_8 H locs hP hS hp => ?_)
                    obtain ⟨hM, hF1⟩ := hp
                    have hFr := hFr.tr (hF1.mono (by intro x9 hx9; first | (dsimp only [zOne, zRg, zCl] at hx9 ⊢; omega) | (dsimp only at hx9 ⊢; omega) | omega))
                    refine lv_aload_n hx hb dX5_digest_113 rfl (lv_at hl 0 rfl) ?_
                    refine lv_aload_n hx hb dX5_digest_114 rfl (lv_at hl 0 rfl) ?_
                    refine lv_sipush (v := 1234) hx hb dX5_digest_115 (by decide) ?_
                    refine z_Vi_eq (As := [.int 1234]) (rest := [.ref (ad n)]) C0 hP hS hl.1 (m_X5_setFor l _ hM) lk_X5_165 hM.n0 hM.o rfl rfl (Nat.le_of_ble_eq_true rfl) ⟨Nat.le_of_ble_eq_true rfl, Nat.le_of_ble_eq_true rfl⟩ rfl rfl ⟨Nat.zero_le _, Nat.zero_le _⟩ dX5_digest_118 (fun H locs hP hS => ?_)
                    refine lv_i2l hx hb dX5_digest_121 rfl ?_
                    refine z_Vv_mo (As := [.long ((sfF sx 1234 127).toInt64)]) (rest := []) C0 hP hS hl.1 (m_X5_digestOne l _ hM) lk_X5_189 hM.n0 hM.o rfl rfl (Nat.le_of_ble_eq_true rfl) ⟨Nat.le_of_ble_eq_true rfl, Nat.le_of_ble_eq_true rfl⟩ rfl rfl ⟨Nat.zero_le _, Nat.zero_le _⟩ dX5_digest_122 (fun g_9 H locs hP hS hp => ?_)
                    obtain ⟨hM, hF1⟩ := hp
                    have hFr := hFr.tr (hF1.mono (by intro x9 hx9; first | (dsimp only [zOne, zRg, zCl] at hx9 ⊢; omega) | (dsimp only at hx9 ⊢; omega) | omega))
                    have hM : isM cy K ad g_9 n sx a2 so ik sv tx k2 l2 0 sm ((nI lw)) ((dm4 sx sm)) := hM
                    refine lv_aload_n hx hb dX5_digest_125 rfl (lv_at hl 0 rfl) ?_
                    refine lv_aload_n hx hb dX5_digest_126 rfl (lv_at hl 0 rfl) ?_
                    refine z_Vi_eq (As := []) (rest := [.ref (ad n)]) C0 hP hS hl.1 (m_X5_fullestOne l _ hM) lk_X5_168 hM.n0 hM.o rfl rfl (Nat.le_of_ble_eq_true rfl) ⟨Nat.le_of_ble_eq_true rfl, Nat.le_of_ble_eq_true rfl⟩ rfl rfl ⟨Nat.zero_le _, Nat.zero_le _⟩ dX5_digest_127 (fun H locs hP hS => ?_)
                    refine lv_i2l hx hb dX5_digest_130 rfl ?_
                    refine z_Vv_mo (As := [.long ((nI (fulN sx 6)).toInt64)]) (rest := []) C0 hP hS hl.1 (m_X5_digestOne l _ hM) lk_X5_189 hM.n0 hM.o rfl rfl (Nat.le_of_ble_eq_true rfl) ⟨Nat.le_of_ble_eq_true rfl, Nat.le_of_ble_eq_true rfl⟩ rfl rfl ⟨Nat.zero_le _, Nat.zero_le _⟩ dX5_digest_131 (fun g_10 H locs hP hS hp => ?_)
                    obtain ⟨hM, hF1⟩ := hp
                    have hFr := hFr.tr (hF1.mono (by intro x9 hx9; first | (dsimp only [zOne, zRg, zCl] at hx9 ⊢; omega) | (dsimp only at hx9 ⊢; omega) | omega))
                    refine lv_aload_n hx hb dX5_digest_134 rfl (lv_at hl 0 rfl) ?_
                    refine lv_aload_n hx hb dX5_digest_135 rfl (lv_at hl 0 rfl) ?_
                    refine z_Vd_eq (As := []) (rest := [.ref (ad n)]) C0 hP hS hl.1 (m_X5_share l _ hM) lk_X5_171 hM.n0 hM.o rfl rfl (Nat.le_of_ble_eq_true rfl) ⟨Nat.le_of_ble_eq_true rfl, Nat.le_of_ble_eq_true rfl⟩ rfl rfl ⟨Nat.zero_le _, Nat.zero_le _⟩ dX5_digest_136 (fun H locs hP hS => ?_)
                    refine z_Sl_eq (As := [.double (shaF (shA sx) (shB sx))]) (rest := [.ref (ad n)]) C0 hP hS hl.1 (m_X5_bitsOf l _ (sha_ok _ _) hbz hB) lk_X5_199 rfl rfl (Nat.le_of_ble_eq_true rfl) ⟨Nat.le_of_ble_eq_true rfl, Nat.le_of_ble_eq_true rfl⟩ rfl rfl ⟨Nat.zero_le _, Nat.zero_le _⟩ dX5_digest_139 (fun H locs hP hS => ?_)
                    refine z_Vv_mo (As := [.long (bitsM (shaF (shA sx) (shB sx)) bz)]) (rest := []) C0 hP hS hl.1 (m_X5_digestOne l _ hM) lk_X5_189 hM.n0 hM.o rfl rfl (Nat.le_of_ble_eq_true rfl) ⟨Nat.le_of_ble_eq_true rfl, Nat.le_of_ble_eq_true rfl⟩ rfl rfl ⟨Nat.zero_le _, Nat.zero_le _⟩ dX5_digest_142 (fun g_11 H locs hP hS hp => ?_)
                    obtain ⟨hM, hF1⟩ := hp
                    have hFr := hFr.tr (hF1.mono (by intro x9 hx9; first | (dsimp only [zOne, zRg, zCl] at hx9 ⊢; omega) | (dsimp only at hx9 ⊢; omega) | omega))
                    have hM : isM cy K ad g_11 n sx a2 so ik sv tx k2 l2 0 sm ((nI lw)) ((dm6 sx sm bz)) := hM
                    refine lv_aload_n hx hb dX5_digest_145 rfl (lv_at hl 0 rfl) ?_
                    refine lv_aload_n hx hb dX5_digest_146 rfl (lv_at hl 0 rfl) ?_
                    refine z_get C0 hP hM.n0 hM.o fd_X5_19 rfl dX5_digest_147 ?_
                    refine lv_iconst (v := 0) hx hb dX5_digest_150 (by decide) ?_
                    refine z_zald C0 hP hM.n4 hM.a_ik (zIx_nI (j := 0) (by decide) (by decide)) dX5_digest_151 ?_
                    refine lv_if_eq (tgt := 159) hx hb dX5_digest_152 (by decide) (fun c_152 => ?_) (fun c_152 => ?_)
                    · refine lv_lconst (v := 0) hx hb dX5_digest_159 (by decide) ?_
                      refine z_topl (y := if ik 0 = 0 then 0 else 1) ((if_pos c_152).symm) ?_
                      refine z_Vv_mo (As := [.long (if ik 0 = 0 then 0 else 1)]) (rest := []) C0 hP hS hl.1 (m_X5_digestOne l _ hM) lk_X5_189 hM.n0 hM.o rfl rfl (Nat.le_of_ble_eq_true rfl) ⟨Nat.le_of_ble_eq_true rfl, Nat.le_of_ble_eq_true rfl⟩ rfl rfl ⟨Nat.zero_le _, Nat.zero_le _⟩ dX5_digest_160 (fun g_12 H locs hP hS hp => ?_)
                      obtain ⟨hM, hF1⟩ := hp
                      have hFr := hFr.tr (hF1.mono (by intro x9 hx9; first | (dsimp only [zOne, zRg, zCl] at hx9 ⊢; omega) | (dsimp only at hx9 ⊢; omega) | omega))
                      refine lv_aload_n hx hb dX5_digest_163 rfl (lv_at hl 0 rfl) ?_
                      refine lv_aload_n hx hb dX5_digest_164 rfl (lv_at hl 0 rfl) ?_
                      refine z_get C0 hP hM.n0 hM.o fd_X5_19 rfl dX5_digest_165 ?_
                      refine lv_iconst (v := 1) hx hb dX5_digest_168 (by decide) ?_
                      refine z_zald C0 hP hM.n4 hM.a_ik (zIx_nI (j := 1) (by decide) (by decide)) dX5_digest_169 ?_
                      refine lv_if_eq (tgt := 177) hx hb dX5_digest_170 (by decide) (fun c_170 => ?_) (fun c_170 => ?_)
                      · refine lv_lconst (v := 0) hx hb dX5_digest_177 (by decide) ?_
                        refine z_topl (y := if ik 1 = 0 then 0 else 1) ((if_pos c_170).symm) ?_
                        refine z_Vv_mo (As := [.long (if ik 1 = 0 then 0 else 1)]) (rest := []) C0 hP hS hl.1 (m_X5_digestOne l _ hM) lk_X5_189 hM.n0 hM.o rfl rfl (Nat.le_of_ble_eq_true rfl) ⟨Nat.le_of_ble_eq_true rfl, Nat.le_of_ble_eq_true rfl⟩ rfl rfl ⟨Nat.zero_le _, Nat.zero_le _⟩ dX5_digest_178 (fun g_13 H locs hP hS hp => ?_)
                        obtain ⟨hM, hF1⟩ := hp
                        have hFr := hFr.tr (hF1.mono (by intro x9 hx9; first | (dsimp only [zOne, zRg, zCl] at hx9 ⊢; omega) | (dsimp only at hx9 ⊢; omega) | omega))
                        have hM : isM cy K ad g_13 n sx a2 so ik sv tx k2 l2 0 sm ((nI lw)) ((dm8 sx sm bz ik)) := hM
                        refine lv_aload_n hx hb dX5_digest_181 rfl (lv_at hl 0 rfl) ?_
                        refine lv_aload_n hx hb dX5_digest_182 rfl (lv_at hl 0 rfl) ?_
                        refine z_get C0 hP hM.n0 hM.o fd_X5_104 rfl dX5_digest_183 ?_
                        refine lv_i2l hx hb dX5_digest_186 rfl ?_
                        refine z_Vv_mo (As := [.long ((nI lw).toInt64)]) (rest := []) C0 hP hS hl.1 (m_X5_digestOne l _ hM) lk_X5_189 hM.n0 hM.o rfl rfl (Nat.le_of_ble_eq_true rfl) ⟨Nat.le_of_ble_eq_true rfl, Nat.le_of_ble_eq_true rfl⟩ rfl rfl ⟨Nat.zero_le _, Nat.zero_le _⟩ dX5_digest_187 (fun g_14 H locs hP hS hp => ?_)
                        obtain ⟨hM, hF1⟩ := hp
                        have hFr := hFr.tr (hF1.mono (by intro x9 hx9; first | (dsimp only [zOne, zRg, zCl] at hx9 ⊢; omega) | (dsimp only at hx9 ⊢; omega) | omega))
                        have hM : isM cy K ad g_14 n sx a2 so ik sv tx k2 l2 0 sm ((nI lw)) ((dm9 sx sm bz ik tx lw 0)) := hM
                        refine lv_iconst (v := (nI 0)) hx hb dX5_digest_190 (by decide) ?_
                        refine lv_istore_n (lv' := [(1, .int (nI 0)), (0, .ref (ad n))]) hx hb dX5_digest_191 rfl hl (by decide) rfl (fun ls hl => ?_)
                        have lp_192 : ∀ (N : Nat) (kz : Nat) (hk : kz ≤ lw), lw - kz < N → ∀ (g_15 : Nat → va_E) (H : Heap) (locs : List Loc) (ls : Array Slot), zP D K ad g_15 (zA K ad s.heap.size) H → va_S (zA K ad s.heap.size) s.heap H locs → isM cy K ad g_15 n sx a2 so ik sv tx k2 l2 0 sm ((nI lw)) ((dm9 sx sm bz ik tx lw kz)) → zFr (zRg n (n + 9)) g g_15 → lv_has ls 2 [(0, .ref (ad n)), (1, .int (nI kz))] → W p l e ({ frames := 9, cells := 0, slots := 0, locals := 206 } : Room) s m [.ref (ad n)].toArray below meth c H locs 0 0 (MQ below (va_Ql (fun r g1 => r = dm9 sx sm bz ik tx lw lw ∧ (∃ (az kn lo : Nat → Int32) (dg : Int64), isM cy K ad g1 n sx az so ik sv tx kn lo 0 sm (nI lw) dg) ∧ zFr (zRg n (n + 9)) g g1) (zOut D cy K ad s.heap.size) (zA K ad s.heap.size)) [.ref (ad n)].toArray s 0 0 (zA K ad s.heap.size)) (F0 m 192 ls []) := by
                          intro N
                          induction N with
                          | zero => intro kz hk hN; exact absurd hN (Nat.not_lt_zero _)
                          | succ N ih_192 =>
                            intro kz hk hN g_15 H locs ls hP hS hM hFr hl
                            refine lv_iload_n hx hb dX5_digest_192 rfl (lv_at hl 1 rfl) ?_
                            refine lv_aload_n hx hb dX5_digest_193 rfl (lv_at hl 0 rfl) ?_
                            refine z_get C0 hP hM.n0 hM.o fd_X5_104 rfl dX5_digest_194 ?_
                            refine lv_icmp_ge (tgt := 217) hx hb dX5_digest_197 (by decide) (fun c_197 => ?_) (fun c_197 => ?_)
                            · have hk2 : kz = lw := by have := z_ge_t c_197 (by omega) (by omega); omega
                              subst hk2
                              refine lv_aload_n hx hb dX5_digest_217 rfl (lv_at hl 0 rfl) ?_
                              refine z_get C0 hP hM.n0 hM.o fd_X5_185 rfl dX5_digest_218 ?_
                              exact z_lret C0 hP hS hr (⟨rfl, ⟨_, _, _, _, hM⟩, hFr⟩) dX5_digest_221
                            · have hk2 : kz < lw := z_ge_f c_197 (by omega) (by omega)
                              refine lv_aload_n hx hb dX5_digest_200 rfl (lv_at hl 0 rfl) ?_
                              refine lv_aload_n hx hb dX5_digest_201 rfl (lv_at hl 0 rfl) ?_
                              refine z_get C0 hP hM.n0 hM.o fd_X5_26 rfl dX5_digest_202 ?_
                              refine lv_iload_n hx hb dX5_digest_205 rfl (lv_at hl 1 rfl) ?_
                              refine z_iald C0 hP hM.n6 hM.a_tx (zIx_nI (by omega) (by decide)) dX5_digest_206 ?_
                              refine lv_i2l hx hb dX5_digest_207 rfl ?_
                              refine z_Vv_mo (As := [.long ((tx kz).toInt64)]) (rest := []) C0 hP hS hl.1 (m_X5_digestOne l _ hM) lk_X5_189 hM.n0 hM.o rfl rfl (Nat.le_of_ble_eq_true rfl) ⟨Nat.le_of_ble_eq_true rfl, Nat.le_of_ble_eq_true rfl⟩ rfl rfl ⟨Nat.zero_le _, Nat.zero_le _⟩ dX5_digest_208 (fun g_16 H locs hP hS hp => ?_)
                              obtain ⟨hM, hF1⟩ := hp
                              have hFr := hFr.tr (hF1.mono (by intro x9 hx9; first | (dsimp only [zOne, zRg, zCl] at hx9 ⊢; omega) | (dsimp only at hx9 ⊢; omega) | omega))
                              have hM : isM cy K ad g_16 n sx a2 so ik sv tx k2 l2 0 sm ((nI lw)) ((dm9 sx sm bz ik tx lw (kz + 1))) := hM
                              refine lv_iinc (v := nI (kz + 1)) (lv' := [(1, .int (nI (kz + 1))), (0, .ref (ad n))]) hx hb dX5_digest_211 hl (k := 1) rfl (z_inc _) (by decide) rfl (fun ls hl => ?_)
                              refine lv_goto (tgt := 192) hx hb dX5_digest_214 (by decide) ?_
                              exact ih_192 (kz + 1) hk2 (by omega) _ _ _ _ hP hS hM hFr (lv_sub hl [1, 0] rfl)
                        exact lp_192 _ 0 (Nat.zero_le _) (Nat.lt_succ_self _) _ _ _ _ hP hS hM hFr (lv_sub hl [1, 0] rfl)
                      · refine lv_lconst (v := 1) hx hb dX5_digest_173 (by decide) ?_
                        refine lv_goto (tgt := 178) hx hb dX5_digest_174 (by decide) ?_
                        refine z_topl (y := if ik 1 = 0 then 0 else 1) ((if_neg c_170).symm) ?_
                        refine z_Vv_mo (As := [.long (if ik 1 = 0 then 0 else 1)]) (rest := []) C0 hP hS hl.1 (m_X5_digestOne l _ hM) lk_X5_189 hM.n0 hM.o rfl rfl (Nat.le_of_ble_eq_true rfl) ⟨Nat.le_of_ble_eq_true rfl, Nat.le_of_ble_eq_true rfl⟩ rfl rfl ⟨Nat.zero_le _, Nat.zero_le _⟩ dX5_digest_178 (fun g_17 H locs hP hS hp => ?_)
                        obtain ⟨hM, hF1⟩ := hp
                        have hFr := hFr.tr (hF1.mono (by intro x9 hx9; first | (dsimp only [zOne, zRg, zCl] at hx9 ⊢; omega) | (dsimp only at hx9 ⊢; omega) | omega))
                        have hM : isM cy K ad g_17 n sx a2 so ik sv tx k2 l2 0 sm ((nI lw)) ((dm8 sx sm bz ik)) := hM
                        refine lv_aload_n hx hb dX5_digest_181 rfl (lv_at hl 0 rfl) ?_
                        refine lv_aload_n hx hb dX5_digest_182 rfl (lv_at hl 0 rfl) ?_
                        refine z_get C0 hP hM.n0 hM.o fd_X5_104 rfl dX5_digest_183 ?_
                        refine lv_i2l hx hb dX5_digest_186 rfl ?_
                        refine z_Vv_mo (As := [.long ((nI lw).toInt64)]) (rest := []) C0 hP hS hl.1 (m_X5_digestOne l _ hM) lk_X5_189 hM.n0 hM.o rfl rfl (Nat.le_of_ble_eq_true rfl) ⟨Nat.le_of_ble_eq_true rfl, Nat.le_of_ble_eq_true rfl⟩ rfl rfl ⟨Nat.zero_le _, Nat.zero_le _⟩ dX5_digest_187 (fun g_18 H locs hP hS hp => ?_)
                        obtain ⟨hM, hF1⟩ := hp
                        have hFr := hFr.tr (hF1.mono (by intro x9 hx9; first | (dsimp only [zOne, zRg, zCl] at hx9 ⊢; omega) | (dsimp only at hx9 ⊢; omega) | omega))
                        have hM : isM cy K ad g_18 n sx a2 so ik sv tx k2 l2 0 sm ((nI lw)) ((dm9 sx sm bz ik tx lw 0)) := hM
                        refine lv_iconst (v := (nI 0)) hx hb dX5_digest_190 (by decide) ?_
                        refine lv_istore_n (lv' := [(1, .int (nI 0)), (0, .ref (ad n))]) hx hb dX5_digest_191 rfl hl (by decide) rfl (fun ls hl => ?_)
                        have lp_192 : ∀ (N : Nat) (kz : Nat) (hk : kz ≤ lw), lw - kz < N → ∀ (g_19 : Nat → va_E) (H : Heap) (locs : List Loc) (ls : Array Slot), zP D K ad g_19 (zA K ad s.heap.size) H → va_S (zA K ad s.heap.size) s.heap H locs → isM cy K ad g_19 n sx a2 so ik sv tx k2 l2 0 sm ((nI lw)) ((dm9 sx sm bz ik tx lw kz)) → zFr (zRg n (n + 9)) g g_19 → lv_has ls 2 [(0, .ref (ad n)), (1, .int (nI kz))] → W p l e ({ frames := 9, cells := 0, slots := 0, locals := 206 } : Room) s m [.ref (ad n)].toArray below meth c H locs 0 0 (MQ below (va_Ql (fun r g1 => r = dm9 sx sm bz ik tx lw lw ∧ (∃ (az kn lo : Nat → Int32) (dg : Int64), isM cy K ad g1 n sx az so ik sv tx kn lo 0 sm (nI lw) dg) ∧ zFr (zRg n (n + 9)) g g1) (zOut D cy K ad s.heap.size) (zA K ad s.heap.size)) [.ref (ad n)].toArray s 0 0 (zA K ad s.heap.size)) (F0 m 192 ls []) := by
                          intro N
                          induction N with
                          | zero => intro kz hk hN; exact absurd hN (Nat.not_lt_zero _)
                          | succ N ih_192 =>
                            intro kz hk hN g_19 H locs ls hP hS hM hFr hl
                            refine lv_iload_n hx hb dX5_digest_192 rfl (lv_at hl 1 rfl) ?_
                            refine lv_aload_n hx hb dX5_digest_193 rfl (lv_at hl 0 rfl) ?_
                            refine z_get C0 hP hM.n0 hM.o fd_X5_104 rfl dX5_digest_194 ?_
                            refine lv_icmp_ge (tgt := 217) hx hb dX5_digest_197 (by decide) (fun c_197 => ?_) (fun c_197 => ?_)
                            · have hk2 : kz = lw := by have := z_ge_t c_197 (by omega) (by omega); omega
                              subst hk2
                              refine lv_aload_n hx hb dX5_digest_217 rfl (lv_at hl 0 rfl) ?_
                              refine z_get C0 hP hM.n0 hM.o fd_X5_185 rfl dX5_digest_218 ?_
                              exact z_lret C0 hP hS hr (⟨rfl, ⟨_, _, _, _, hM⟩, hFr⟩) dX5_digest_221
                            · have hk2 : kz < lw := z_ge_f c_197 (by omega) (by omega)
                              refine lv_aload_n hx hb dX5_digest_200 rfl (lv_at hl 0 rfl) ?_
                              refine lv_aload_n hx hb dX5_digest_201 rfl (lv_at hl 0 rfl) ?_
                              refine z_get C0 hP hM.n0 hM.o fd_X5_26 rfl dX5_digest_202 ?_
                              refine lv_iload_n hx hb dX5_digest_205 rfl (lv_at hl 1 rfl) ?_
                              refine z_iald C0 hP hM.n6 hM.a_tx (zIx_nI (by omega) (by decide)) dX5_digest_206 ?_
                              refine lv_i2l hx hb dX5_digest_207 rfl ?_
                              refine z_Vv_mo (As := [.long ((tx kz).toInt64)]) (rest := []) C0 hP hS hl.1 (m_X5_digestOne l _ hM) lk_X5_189 hM.n0 hM.o rfl rfl (Nat.le_of_ble_eq_true rfl) ⟨Nat.le_of_ble_eq_true rfl, Nat.le_of_ble_eq_true rfl⟩ rfl rfl ⟨Nat.zero_le _, Nat.zero_le _⟩ dX5_digest_208 (fun g_20 H locs hP hS hp => ?_)
                              obtain ⟨hM, hF1⟩ := hp
                              have hFr := hFr.tr (hF1.mono (by intro x9 hx9; first | (dsimp only [zOne, zRg, zCl] at hx9 ⊢; omega) | (dsimp only at hx9 ⊢; omega) | omega))
                              have hM : isM cy K ad g_20 n sx a2 so ik sv tx k2 l2 0 sm ((nI lw)) ((dm9 sx sm bz ik tx lw (kz + 1))) := hM
                              refine lv_iinc (v := nI (kz + 1)) (lv' := [(1, .int (nI (kz + 1))), (0, .ref (ad n))]) hx hb dX5_digest_211 hl (k := 1) rfl (z_inc _) (by decide) rfl (fun ls hl => ?_)
                              refine lv_goto (tgt := 192) hx hb dX5_digest_214 (by decide) ?_
                              exact ih_192 (kz + 1) hk2 (by omega) _ _ _ _ hP hS hM hFr (lv_sub hl [1, 0] rfl)
                        exact lp_192 _ 0 (Nat.zero_le _) (Nat.lt_succ_self _) _ _ _ _ hP hS hM hFr (lv_sub hl [1, 0] rfl)
                    · refine lv_lconst (v := 1) hx hb dX5_digest_155 (by decide) ?_
                      refine lv_goto (tgt := 160) hx hb dX5_digest_156 (by decide) ?_
                      refine z_topl (y := if ik 0 = 0 then 0 else 1) ((if_neg c_152).symm) ?_
                      refine z_Vv_mo (As := [.long (if ik 0 = 0 then 0 else 1)]) (rest := []) C0 hP hS hl.1 (m_X5_digestOne l _ hM) lk_X5_189 hM.n0 hM.o rfl rfl (Nat.le_of_ble_eq_true rfl) ⟨Nat.le_of_ble_eq_true rfl, Nat.le_of_ble_eq_true rfl⟩ rfl rfl ⟨Nat.zero_le _, Nat.zero_le _⟩ dX5_digest_160 (fun g_21 H locs hP hS hp => ?_)
                      obtain ⟨hM, hF1⟩ := hp
                      have hFr := hFr.tr (hF1.mono (by intro x9 hx9; first | (dsimp only [zOne, zRg, zCl] at hx9 ⊢; omega) | (dsimp only at hx9 ⊢; omega) | omega))
                      refine lv_aload_n hx hb dX5_digest_163 rfl (lv_at hl 0 rfl) ?_
                      refine lv_aload_n hx hb dX5_digest_164 rfl (lv_at hl 0 rfl) ?_
                      refine z_get C0 hP hM.n0 hM.o fd_X5_19 rfl dX5_digest_165 ?_
                      refine lv_iconst (v := 1) hx hb dX5_digest_168 (by decide) ?_
                      refine z_zald C0 hP hM.n4 hM.a_ik (zIx_nI (j := 1) (by decide) (by decide)) dX5_digest_169 ?_
                      refine lv_if_eq (tgt := 177) hx hb dX5_digest_170 (by decide) (fun c_170 => ?_) (fun c_170 => ?_)
                      · refine lv_lconst (v := 0) hx hb dX5_digest_177 (by decide) ?_
                        refine z_topl (y := if ik 1 = 0 then 0 else 1) ((if_pos c_170).symm) ?_
                        refine z_Vv_mo (As := [.long (if ik 1 = 0 then 0 else 1)]) (rest := []) C0 hP hS hl.1 (m_X5_digestOne l _ hM) lk_X5_189 hM.n0 hM.o rfl rfl (Nat.le_of_ble_eq_true rfl) ⟨Nat.le_of_ble_eq_true rfl, Nat.le_of_ble_eq_true rfl⟩ rfl rfl ⟨Nat.zero_le _, Nat.zero_le _⟩ dX5_digest_178 (fun g_22 H locs hP hS hp => ?_)
                        obtain ⟨hM, hF1⟩ := hp
                        have hFr := hFr.tr (hF1.mono (by intro x9 hx9; first | (dsimp only [zOne, zRg, zCl] at hx9 ⊢; omega) | (dsimp only at hx9 ⊢; omega) | omega))
                        have hM : isM cy K ad g_22 n sx a2 so ik sv tx k2 l2 0 sm ((nI lw)) ((dm8 sx sm bz ik)) := hM
                        refine lv_aload_n hx hb dX5_digest_181 rfl (lv_at hl 0 rfl) ?_
                        refine lv_aload_n hx hb dX5_digest_182 rfl (lv_at hl 0 rfl) ?_
                        refine z_get C0 hP hM.n0 hM.o fd_X5_104 rfl dX5_digest_183 ?_
                        refine lv_i2l hx hb dX5_digest_186 rfl ?_
                        refine z_Vv_mo (As := [.long ((nI lw).toInt64)]) (rest := []) C0 hP hS hl.1 (m_X5_digestOne l _ hM) lk_X5_189 hM.n0 hM.o rfl rfl (Nat.le_of_ble_eq_true rfl) ⟨Nat.le_of_ble_eq_true rfl, Nat.le_of_ble_eq_true rfl⟩ rfl rfl ⟨Nat.zero_le _, Nat.zero_le _⟩ dX5_digest_187 (fun g_23 H locs hP hS hp => ?_)
                        obtain ⟨hM, hF1⟩ := hp
                        have hFr := hFr.tr (hF1.mono (by intro x9 hx9; first | (dsimp only [zOne, zRg, zCl] at hx9 ⊢; omega) | (dsimp only at hx9 ⊢; omega) | omega))
                        have hM : isM cy K ad g_23 n sx a2 so ik sv tx k2 l2 0 sm ((nI lw)) ((dm9 sx sm bz ik tx lw 0)) := hM
                        refine lv_iconst (v := (nI 0)) hx hb dX5_digest_190 (by decide) ?_
                        refine lv_istore_n (lv' := [(1, .int (nI 0)), (0, .ref (ad n))]) hx hb dX5_digest_191 rfl hl (by decide) rfl (fun ls hl => ?_)
                        have lp_192 : ∀ (N : Nat) (kz : Nat) (hk : kz ≤ lw), lw - kz < N → ∀ (g_24 : Nat → va_E) (H : Heap) (locs : List Loc) (ls : Array Slot), zP D K ad g_24 (zA K ad s.heap.size) H → va_S (zA K ad s.heap.size) s.heap H locs → isM cy K ad g_24 n sx a2 so ik sv tx k2 l2 0 sm ((nI lw)) ((dm9 sx sm bz ik tx lw kz)) → zFr (zRg n (n + 9)) g g_24 → lv_has ls 2 [(0, .ref (ad n)), (1, .int (nI kz))] → W p l e ({ frames := 9, cells := 0, slots := 0, locals := 206 } : Room) s m [.ref (ad n)].toArray below meth c H locs 0 0 (MQ below (va_Ql (fun r g1 => r = dm9 sx sm bz ik tx lw lw ∧ (∃ (az kn lo : Nat → Int32) (dg : Int64), isM cy K ad g1 n sx az so ik sv tx kn lo 0 sm (nI lw) dg) ∧ zFr (zRg n (n + 9)) g g1) (zOut D cy K ad s.heap.size) (zA K ad s.heap.size)) [.ref (ad n)].toArray s 0 0 (zA K ad s.heap.size)) (F0 m 192 ls []) := by
                          intro N
                          induction N with
                          | zero => intro kz hk hN; exact absurd hN (Nat.not_lt_zero _)
                          | succ N ih_192 =>
                            intro kz hk hN g_24 H locs ls hP hS hM hFr hl
                            refine lv_iload_n hx hb dX5_digest_192 rfl (lv_at hl 1 rfl) ?_
                            refine lv_aload_n hx hb dX5_digest_193 rfl (lv_at hl 0 rfl) ?_
                            refine z_get C0 hP hM.n0 hM.o fd_X5_104 rfl dX5_digest_194 ?_
                            refine lv_icmp_ge (tgt := 217) hx hb dX5_digest_197 (by decide) (fun c_197 => ?_) (fun c_197 => ?_)
                            · have hk2 : kz = lw := by have := z_ge_t c_197 (by omega) (by omega); omega
                              subst hk2
                              refine lv_aload_n hx hb dX5_digest_217 rfl (lv_at hl 0 rfl) ?_
                              refine z_get C0 hP hM.n0 hM.o fd_X5_185 rfl dX5_digest_218 ?_
                              exact z_lret C0 hP hS hr (⟨rfl, ⟨_, _, _, _, hM⟩, hFr⟩) dX5_digest_221
                            · have hk2 : kz < lw := z_ge_f c_197 (by omega) (by omega)
                              refine lv_aload_n hx hb dX5_digest_200 rfl (lv_at hl 0 rfl) ?_
                              refine lv_aload_n hx hb dX5_digest_201 rfl (lv_at hl 0 rfl) ?_
                              refine z_get C0 hP hM.n0 hM.o fd_X5_26 rfl dX5_digest_202 ?_
                              refine lv_iload_n hx hb dX5_digest_205 rfl (lv_at hl 1 rfl) ?_
                              refine z_iald C0 hP hM.n6 hM.a_tx (zIx_nI (by omega) (by decide)) dX5_digest_206 ?_
                              refine lv_i2l hx hb dX5_digest_207 rfl ?_
                              refine z_Vv_mo (As := [.long ((tx kz).toInt64)]) (rest := []) C0 hP hS hl.1 (m_X5_digestOne l _ hM) lk_X5_189 hM.n0 hM.o rfl rfl (Nat.le_of_ble_eq_true rfl) ⟨Nat.le_of_ble_eq_true rfl, Nat.le_of_ble_eq_true rfl⟩ rfl rfl ⟨Nat.zero_le _, Nat.zero_le _⟩ dX5_digest_208 (fun g_25 H locs hP hS hp => ?_)
                              obtain ⟨hM, hF1⟩ := hp
                              have hFr := hFr.tr (hF1.mono (by intro x9 hx9; first | (dsimp only [zOne, zRg, zCl] at hx9 ⊢; omega) | (dsimp only at hx9 ⊢; omega) | omega))
                              have hM : isM cy K ad g_25 n sx a2 so ik sv tx k2 l2 0 sm ((nI lw)) ((dm9 sx sm bz ik tx lw (kz + 1))) := hM
                              refine lv_iinc (v := nI (kz + 1)) (lv' := [(1, .int (nI (kz + 1))), (0, .ref (ad n))]) hx hb dX5_digest_211 hl (k := 1) rfl (z_inc _) (by decide) rfl (fun ls hl => ?_)
                              refine lv_goto (tgt := 192) hx hb dX5_digest_214 (by decide) ?_
                              exact ih_192 (kz + 1) hk2 (by omega) _ _ _ _ hP hS hM hFr (lv_sub hl [1, 0] rfl)
                        exact lp_192 _ 0 (Nat.zero_le _) (Nat.lt_succ_self _) _ _ _ _ hP hS hM hFr (lv_sub hl [1, 0] rfl)
                      · refine lv_lconst (v := 1) hx hb dX5_digest_173 (by decide) ?_
                        refine lv_goto (tgt := 178) hx hb dX5_digest_174 (by decide) ?_
                        refine z_topl (y := if ik 1 = 0 then 0 else 1) ((if_neg c_170).symm) ?_
                        refine z_Vv_mo (As := [.long (if ik 1 = 0 then 0 else 1)]) (rest := []) C0 hP hS hl.1 (m_X5_digestOne l _ hM) lk_X5_189 hM.n0 hM.o rfl rfl (Nat.le_of_ble_eq_true rfl) ⟨Nat.le_of_ble_eq_true rfl, Nat.le_of_ble_eq_true rfl⟩ rfl rfl ⟨Nat.zero_le _, Nat.zero_le _⟩ dX5_digest_178 (fun g_26 H locs hP hS hp => ?_)
                        obtain ⟨hM, hF1⟩ := hp
                        have hFr := hFr.tr (hF1.mono (by intro x9 hx9; first | (dsimp only [zOne, zRg, zCl] at hx9 ⊢; omega) | (dsimp only at hx9 ⊢; omega) | omega))
                        have hM : isM cy K ad g_26 n sx a2 so ik sv tx k2 l2 0 sm ((nI lw)) ((dm8 sx sm bz ik)) := hM
                        refine lv_aload_n hx hb dX5_digest_181 rfl (lv_at hl 0 rfl) ?_
                        refine lv_aload_n hx hb dX5_digest_182 rfl (lv_at hl 0 rfl) ?_
                        refine z_get C0 hP hM.n0 hM.o fd_X5_104 rfl dX5_digest_183 ?_
                        refine lv_i2l hx hb dX5_digest_186 rfl ?_
                        refine z_Vv_mo (As := [.long ((nI lw).toInt64)]) (rest := []) C0 hP hS hl.1 (m_X5_digestOne l _ hM) lk_X5_189 hM.n0 hM.o rfl rfl (Nat.le_of_ble_eq_true rfl) ⟨Nat.le_of_ble_eq_true rfl, Nat.le_of_ble_eq_true rfl⟩ rfl rfl ⟨Nat.zero_le _, Nat.zero_le _⟩ dX5_digest_187 (fun g_27 H locs hP hS hp => ?_)
                        obtain ⟨hM, hF1⟩ := hp
                        have hFr := hFr.tr (hF1.mono (by intro x9 hx9; first | (dsimp only [zOne, zRg, zCl] at hx9 ⊢; omega) | (dsimp only at hx9 ⊢; omega) | omega))
                        have hM : isM cy K ad g_27 n sx a2 so ik sv tx k2 l2 0 sm ((nI lw)) ((dm9 sx sm bz ik tx lw 0)) := hM
                        refine lv_iconst (v := (nI 0)) hx hb dX5_digest_190 (by decide) ?_
                        refine lv_istore_n (lv' := [(1, .int (nI 0)), (0, .ref (ad n))]) hx hb dX5_digest_191 rfl hl (by decide) rfl (fun ls hl => ?_)
                        have lp_192 : ∀ (N : Nat) (kz : Nat) (hk : kz ≤ lw), lw - kz < N → ∀ (g_28 : Nat → va_E) (H : Heap) (locs : List Loc) (ls : Array Slot), zP D K ad g_28 (zA K ad s.heap.size) H → va_S (zA K ad s.heap.size) s.heap H locs → isM cy K ad g_28 n sx a2 so ik sv tx k2 l2 0 sm ((nI lw)) ((dm9 sx sm bz ik tx lw kz)) → zFr (zRg n (n + 9)) g g_28 → lv_has ls 2 [(0, .ref (ad n)), (1, .int (nI kz))] → W p l e ({ frames := 9, cells := 0, slots := 0, locals := 206 } : Room) s m [.ref (ad n)].toArray below meth c H locs 0 0 (MQ below (va_Ql (fun r g1 => r = dm9 sx sm bz ik tx lw lw ∧ (∃ (az kn lo : Nat → Int32) (dg : Int64), isM cy K ad g1 n sx az so ik sv tx kn lo 0 sm (nI lw) dg) ∧ zFr (zRg n (n + 9)) g g1) (zOut D cy K ad s.heap.size) (zA K ad s.heap.size)) [.ref (ad n)].toArray s 0 0 (zA K ad s.heap.size)) (F0 m 192 ls []) := by
                          intro N
                          induction N with
                          | zero => intro kz hk hN; exact absurd hN (Nat.not_lt_zero _)
                          | succ N ih_192 =>
                            intro kz hk hN g_28 H locs ls hP hS hM hFr hl
                            refine lv_iload_n hx hb dX5_digest_192 rfl (lv_at hl 1 rfl) ?_
                            refine lv_aload_n hx hb dX5_digest_193 rfl (lv_at hl 0 rfl) ?_
                            refine z_get C0 hP hM.n0 hM.o fd_X5_104 rfl dX5_digest_194 ?_
                            refine lv_icmp_ge (tgt := 217) hx hb dX5_digest_197 (by decide) (fun c_197 => ?_) (fun c_197 => ?_)
                            · have hk2 : kz = lw := by have := z_ge_t c_197 (by omega) (by omega); omega
                              subst hk2
                              refine lv_aload_n hx hb dX5_digest_217 rfl (lv_at hl 0 rfl) ?_
                              refine z_get C0 hP hM.n0 hM.o fd_X5_185 rfl dX5_digest_218 ?_
                              exact z_lret C0 hP hS hr (⟨rfl, ⟨_, _, _, _, hM⟩, hFr⟩) dX5_digest_221
                            · have hk2 : kz < lw := z_ge_f c_197 (by omega) (by omega)
                              refine lv_aload_n hx hb dX5_digest_200 rfl (lv_at hl 0 rfl) ?_
                              refine lv_aload_n hx hb dX5_digest_201 rfl (lv_at hl 0 rfl) ?_
                              refine z_get C0 hP hM.n0 hM.o fd_X5_26 rfl dX5_digest_202 ?_
                              refine lv_iload_n hx hb dX5_digest_205 rfl (lv_at hl 1 rfl) ?_
                              refine z_iald C0 hP hM.n6 hM.a_tx (zIx_nI (by omega) (by decide)) dX5_digest_206 ?_
                              refine lv_i2l hx hb dX5_digest_207 rfl ?_
                              refine z_Vv_mo (As := [.long ((tx kz).toInt64)]) (rest := []) C0 hP hS hl.1 (m_X5_digestOne l _ hM) lk_X5_189 hM.n0 hM.o rfl rfl (Nat.le_of_ble_eq_true rfl) ⟨Nat.le_of_ble_eq_true rfl, Nat.le_of_ble_eq_true rfl⟩ rfl rfl ⟨Nat.zero_le _, Nat.zero_le _⟩ dX5_digest_208 (fun g_29 H locs hP hS hp => ?_)
                              obtain ⟨hM, hF1⟩ := hp
                              have hFr := hFr.tr (hF1.mono (by intro x9 hx9; first | (dsimp only [zOne, zRg, zCl] at hx9 ⊢; omega) | (dsimp only at hx9 ⊢; omega) | omega))
                              have hM : isM cy K ad g_29 n sx a2 so ik sv tx k2 l2 0 sm ((nI lw)) ((dm9 sx sm bz ik tx lw (kz + 1))) := hM
                              refine lv_iinc (v := nI (kz + 1)) (lv' := [(1, .int (nI (kz + 1))), (0, .ref (ad n))]) hx hb dX5_digest_211 hl (k := 1) rfl (z_inc _) (by decide) rfl (fun ls hl => ?_)
                              refine lv_goto (tgt := 192) hx hb dX5_digest_214 (by decide) ?_
                              exact ih_192 (kz + 1) hk2 (by omega) _ _ _ _ hP hS hM hFr (lv_sub hl [1, 0] rfl)
                        exact lp_192 _ 0 (Nat.zero_le _) (Nat.lt_succ_self _) _ _ _ _ hP hS hM hFr (lv_sub hl [1, 0] rfl)
                  · have hk2 : kz < 6 := z_ge_f (b := 6) c_60 (by omega) (by omega)
                    refine lv_aload_n hx hb dX5_digest_63 rfl (lv_at hl 0 rfl) ?_
                    refine lv_aload_n hx hb dX5_digest_64 rfl (lv_at hl 0 rfl) ?_
                    refine lv_iload_n hx hb dX5_digest_65 rfl (lv_at hl 1 rfl) ?_
                    refine z_Vi_eq (As := [.int (nI kz)]) (rest := [.ref (ad n)]) C0 hP hS hl.1 (m_X5_ofHue l _ hM) lk_X5_146 hM.n0 hM.o rfl rfl (Nat.le_of_ble_eq_true rfl) ⟨Nat.le_of_ble_eq_true rfl, Nat.le_of_ble_eq_true rfl⟩ rfl rfl ⟨Nat.zero_le _, Nat.zero_le _⟩ dX5_digest_66 (fun H locs hP hS => ?_)
                    refine lv_i2l hx hb dX5_digest_69 rfl ?_
                    refine z_Vv_mo (As := [.long ((sumN (hueN sx (nI kz)) 7).toInt64)]) (rest := []) C0 hP hS hl.1 (m_X5_digestOne l _ hM) lk_X5_189 hM.n0 hM.o rfl rfl (Nat.le_of_ble_eq_true rfl) ⟨Nat.le_of_ble_eq_true rfl, Nat.le_of_ble_eq_true rfl⟩ rfl rfl ⟨Nat.zero_le _, Nat.zero_le _⟩ dX5_digest_70 (fun g_30 H locs hP hS hp => ?_)
                    obtain ⟨hM, hF1⟩ := hp
                    have hFr := hFr.tr (hF1.mono (by intro x9 hx9; first | (dsimp only [zOne, zRg, zCl] at hx9 ⊢; omega) | (dsimp only at hx9 ⊢; omega) | omega))
                    have hM : isM cy K ad g_30 n sx a2 so ik sv tx k2 l2 0 sm ((nI lw)) ((dm3 sx sm (kz + 1))) := hM
                    refine lv_iinc (v := nI (kz + 1)) (lv' := [(1, .int (nI (kz + 1))), (0, .ref (ad n))]) hx hb dX5_digest_73 hl (k := 1) rfl (z_inc _) (by decide) rfl (fun ls hl => ?_)
                    refine lv_goto (tgt := 57) hx hb dX5_digest_76 (by decide) ?_
                    exact ih_57 (kz + 1) hk2 (by omega) _ _ _ _ hP hS hM hFr (lv_sub hl [1, 0] rfl)
              exact lp_57 _ 0 (Nat.zero_le _) (Nat.lt_succ_self _) _ _ _ _ hP hS hM hFr (lv_sub hl [1, 0] rfl)
            · have hk2 : kz < 7 := z_ge_f (b := 7) c_41 (by omega) (by omega)
              refine lv_aload_n hx hb dX5_digest_44 rfl (lv_at hl 0 rfl) ?_
              refine lv_iload_n hx hb dX5_digest_45 rfl (lv_at hl 1 rfl) ?_
              refine z_Vv_mo (As := [.int (nI kz)]) (rest := []) C0 hP hS hl.1 (m_X5_digestCord l _ hM hk2 hpc (hgeA kz hk2)) lk_X5_195 hM.n0 hM.o rfl rfl (Nat.le_of_ble_eq_true rfl) ⟨Nat.le_of_ble_eq_true rfl, Nat.le_of_ble_eq_true rfl⟩ rfl rfl ⟨Nat.zero_le _, Nat.zero_le _⟩ dX5_digest_46 (fun g_31 H locs hP hS hp => ?_)
              obtain ⟨⟨a3, k3, l3, hM⟩, hF1⟩ := hp
              have hFr := hFr.tr (hF1.mono (by intro x9 hx9; first | (dsimp only [zOne, zRg, zCl] at hx9 ⊢; omega) | (dsimp only at hx9 ⊢; omega) | omega))
              have hM : isM cy K ad g_31 n sx a3 so ik sv tx k3 l3 0 sm ((nI lw)) ((dmN sx (dm1 sx sm 10) (kz + 1))) := hM
              refine lv_iinc (v := nI (kz + 1)) (lv' := [(1, .int (nI (kz + 1))), (0, .ref (ad n))]) hx hb dX5_digest_49 hl (k := 1) rfl (z_inc _) (by decide) rfl (fun ls hl => ?_)
              refine lv_goto (tgt := 38) hx hb dX5_digest_52 (by decide) ?_
              exact ih_38 (kz + 1) a3 k3 l3 hk2 (by omega) _ _ _ _ hP hS hM hFr (lv_sub hl [1, 0] rfl)
        exact lp_38 _ 0 az kn lo (Nat.zero_le _) (Nat.lt_succ_self _) _ _ _ _ hP hS hM hFr (lv_sub hl [1, 0] rfl)
      · have hk2 : kz < 10 := z_ge_f (b := 10) c_17 (by omega) (by omega)
        refine lv_aload_n hx hb dX5_digest_20 rfl (lv_at hl 0 rfl) ?_
        refine lv_aload_n hx hb dX5_digest_21 rfl (lv_at hl 0 rfl) ?_
        refine lv_iload_n hx hb dX5_digest_22 rfl (lv_at hl 1 rfl) ?_
        refine z_Vi_eq (As := [.int (nI kz)]) (rest := [.ref (ad n)]) C0 hP hS hl.1 (m_X5_counted l _ hM (by omega) hpc) lk_X5_143 hM.n0 hM.o rfl rfl (Nat.le_of_ble_eq_true rfl) ⟨Nat.le_of_ble_eq_true rfl, Nat.le_of_ble_eq_true rfl⟩ rfl rfl ⟨Nat.zero_le _, Nat.zero_le _⟩ dX5_digest_23 (fun H locs hP hS => ?_)
        refine lv_i2l hx hb dX5_digest_26 rfl ?_
        refine z_Vv_mo (As := [.long ((cntM sx sm kz).toInt64)]) (rest := []) C0 hP hS hl.1 (m_X5_digestOne l _ hM) lk_X5_189 hM.n0 hM.o rfl rfl (Nat.le_of_ble_eq_true rfl) ⟨Nat.le_of_ble_eq_true rfl, Nat.le_of_ble_eq_true rfl⟩ rfl rfl ⟨Nat.zero_le _, Nat.zero_le _⟩ dX5_digest_27 (fun g_32 H locs hP hS hp => ?_)
        obtain ⟨hM, hF1⟩ := hp
        have hFr := hFr.tr (hF1.mono (by intro x9 hx9; first | (dsimp only [zOne, zRg, zCl] at hx9 ⊢; omega) | (dsimp only at hx9 ⊢; omega) | omega))
        have hM : isM cy K ad g_32 n sx az so ik sv tx kn lo 0 sm ((nI lw)) ((dm1 sx sm (kz + 1))) := hM
        refine lv_iinc (v := nI (kz + 1)) (lv' := [(1, .int (nI (kz + 1))), (0, .ref (ad n))]) hx hb dX5_digest_30 hl (k := 1) rfl (z_inc _) (by decide) rfl (fun ls hl => ?_)
        refine lv_goto (tgt := 14) hx hb dX5_digest_33 (by decide) ?_
        exact ih_14 (kz + 1) hk2 (by omega) _ _ _ _ hP hS hM hFr (lv_sub hl [1, 0] rfl)
  exact lp_14 _ 0 (Nat.zero_le _) (Nat.lt_succ_self _) _ _ _ _ hP hS hM hFr (lv_sub hl [1, 0] rfl)
set_option maxHeartbeats 4000000 in
set_option maxRecDepth 100000 in
theorem m_X5_cordsForb1 (l : Launch) {D : va_G} {cy : Nat → ClassId} {K : Nat} {ad : Nat → Nat} {g : Nat → va_E} (sz : Nat) {n : Nat} {sx az so ik sv tx kn lo : Nat → Int32} {th sm lz : Int32} {dg : Int64} {xz wz : Int32} (hM : isM cy K ad g n sx az so ik sv tx kn lo th sm lz dg) (hbd : xz < 1 ∨ 9999999 < xz) : Met l yX5_cordsFor (zs yX5_cordsFor cX5_cordsFor 3 (some .int)) ({ frames := 6, cells := 0, slots := 0, locals := 134 } : Room) (va_Pc [.ref (ad n), .int xz, .int wz] (zIn D cy K ad g sz)) (va_Qi (fun r g1 => r = 0 ∧ isM cy K ad g1 n sx az so ik sv tx kn lo 1 sm lz dg ∧ zFr (zRg n (n + 9)) g g1) (zOut D cy K ad sz) (zA K ad sz)) 0 0 (zA K ad sz) := by
  refine z_met (by decide) (Nat.le_of_ble_eq_true rfl) (fun p e s m below meth c ls hsz hl C0 hr hnm hP hS => ?_)
  subst hsz
  have hl : lv_has ls 3 [(0, .ref (ad n)), (1, .int xz), (2, .int wz)] := hl
  have hx := C0.1; have hb := C0.2.1; have hown := C0.2.2.2.1; have hts := C0.2.2.2.2.1
  have hFr : zFr (zRg n (n + 9)) g g := zFr.rf
  refine lv_aload_n hx hb dX5_cordsFor_0 rfl (lv_at hl 0 rfl) ?_
  refine lv_iload_n hx hb dX5_cordsFor_1 rfl (lv_at hl 1 rfl) ?_
  refine lv_iconst (v := 1) hx hb dX5_cordsFor_2 (by decide) ?_
  refine lv_ldc hx hb hown (hts _ q1040) dX5_cordsFor_3 ?_
  refine z_Si_eq (As := [.int xz, .int 1, .int 9999999]) (rest := [.ref (ad n)]) C0 hP hS hl.1 (m_X5_in l _ ) lk_X5_39 rfl rfl (Nat.le_of_ble_eq_true rfl) ⟨Nat.le_of_ble_eq_true rfl, Nat.le_of_ble_eq_true rfl⟩ rfl rfl ⟨Nat.zero_le _, Nat.zero_le _⟩ dX5_cordsFor_5 (fun H locs hP hS => ?_)
  refine z_topi (y := 0) (zin1 hbd) ?_
  refine lv_if_eq (tgt := 24) hx hb dX5_cordsFor_8 (by decide) (fun c_8 => ?_) (fun c_8 => absurd c_8 (by decide))
  refine lv_iconst (v := 1) hx hb dX5_cordsFor_24 (by decide) ?_
  refine z_Vi_mo (As := [.int 1]) (rest := []) C0 hP hS hl.1 (m_X5_holds l _ hM) lk_X5_86 hM.n0 hM.o rfl rfl (Nat.le_of_ble_eq_true rfl) ⟨Nat.le_of_ble_eq_true rfl, Nat.le_of_ble_eq_true rfl⟩ rfl rfl ⟨Nat.zero_le _, Nat.zero_le _⟩ dX5_cordsFor_25 (fun r_25 g_1 H locs hP hS hp => ?_)
  obtain ⟨hr_25, hM, hF1⟩ := hp
  subst hr_25
  have hFr := hFr.tr (hF1.mono (by intro x9 hx9; first | (dsimp only [zOne, zRg, zCl] at hx9 ⊢; omega) | (dsimp only at hx9 ⊢; omega) | omega))
  refine z_topi (y := 0) (if_neg (by decide)) ?_
  refine lv_if_eq (tgt := 39) hx hb dX5_cordsFor_28 (by decide) (fun c_28 => ?_) (fun c_28 => absurd c_28 (by decide))
  refine lv_iconst (v := 0) hx hb dX5_cordsFor_39 (by decide) ?_
  exact z_iret C0 hP hS hr (⟨rfl, hM, hFr⟩) dX5_cordsFor_40
set_option maxHeartbeats 4000000 in
set_option maxRecDepth 100000 in
theorem m_X5_cordsForb2 (l : Launch) {D : va_G} {cy : Nat → ClassId} {K : Nat} {ad : Nat → Nat} {g : Nat → va_E} (sz : Nat) {n : Nat} {sx az so ik sv tx kn lo : Nat → Int32} {th sm lz : Int32} {dg : Int64} {sum xz : Int32} (hM : isM cy K ad g n sx az so ik sv tx kn lo th sm lz dg) (hs1 : ¬ sum < 1) (hs2 : sum ≤ 9999999) (hbd : xz < 0 ∨ 2 ≤ xz) : Met l yX5_cordsFor (zs yX5_cordsFor cX5_cordsFor 3 (some .int)) ({ frames := 6, cells := 0, slots := 0, locals := 134 } : Room) (va_Pc [.ref (ad n), .int sum, .int xz] (zIn D cy K ad g sz)) (va_Qi (fun r g1 => r = 0 ∧ isM cy K ad g1 n sx az so ik sv tx kn lo 1 sm lz dg ∧ zFr (zRg n (n + 9)) g g1) (zOut D cy K ad sz) (zA K ad sz)) 0 0 (zA K ad sz) := by
  refine z_met (by decide) (Nat.le_of_ble_eq_true rfl) (fun p e s m below meth c ls hsz hl C0 hr hnm hP hS => ?_)
  subst hsz
  have hl : lv_has ls 3 [(0, .ref (ad n)), (1, .int sum), (2, .int xz)] := hl
  have hx := C0.1; have hb := C0.2.1; have hown := C0.2.2.2.1; have hts := C0.2.2.2.2.1
  have hFr : zFr (zRg n (n + 9)) g g := zFr.rf
  refine lv_aload_n hx hb dX5_cordsFor_0 rfl (lv_at hl 0 rfl) ?_
  refine lv_iload_n hx hb dX5_cordsFor_1 rfl (lv_at hl 1 rfl) ?_
  refine lv_iconst (v := 1) hx hb dX5_cordsFor_2 (by decide) ?_
  refine lv_ldc hx hb hown (hts _ q1040) dX5_cordsFor_3 ?_
  refine z_Si_eq (As := [.int sum, .int 1, .int 9999999]) (rest := [.ref (ad n)]) C0 hP hS hl.1 (m_X5_in l _ ) lk_X5_39 rfl rfl (Nat.le_of_ble_eq_true rfl) ⟨Nat.le_of_ble_eq_true rfl, Nat.le_of_ble_eq_true rfl⟩ rfl rfl ⟨Nat.zero_le _, Nat.zero_le _⟩ dX5_cordsFor_5 (fun H locs hP hS => ?_)
  refine z_topi (y := 1) (if_pos ⟨Int32.not_lt.mp hs1, hs2⟩) ?_
  refine lv_if_eq (tgt := 24) hx hb dX5_cordsFor_8 (by decide) (fun c_8 => absurd c_8 (by decide)) (fun c_8 => ?_)
  refine lv_iload_n hx hb dX5_cordsFor_11 rfl (lv_at hl 2 rfl) ?_
  refine lv_iconst (v := 0) hx hb dX5_cordsFor_12 (by decide) ?_
  refine lv_iconst (v := 1) hx hb dX5_cordsFor_13 (by decide) ?_
  refine z_Si_eq (As := [.int xz, .int 0, .int 1]) (rest := [.ref (ad n)]) C0 hP hS hl.1 (m_X5_in l _ ) lk_X5_39 rfl rfl (Nat.le_of_ble_eq_true rfl) ⟨Nat.le_of_ble_eq_true rfl, Nat.le_of_ble_eq_true rfl⟩ rfl rfl ⟨Nat.zero_le _, Nat.zero_le _⟩ dX5_cordsFor_14 (fun H locs hP hS => ?_)
  refine z_topi (y := 0) (zin0 hbd rfl) ?_
  refine lv_if_eq (tgt := 24) hx hb dX5_cordsFor_17 (by decide) (fun c_17 => ?_) (fun c_17 => absurd c_17 (by decide))
  refine lv_iconst (v := 1) hx hb dX5_cordsFor_24 (by decide) ?_
  refine z_Vi_mo (As := [.int 1]) (rest := []) C0 hP hS hl.1 (m_X5_holds l _ hM) lk_X5_86 hM.n0 hM.o rfl rfl (Nat.le_of_ble_eq_true rfl) ⟨Nat.le_of_ble_eq_true rfl, Nat.le_of_ble_eq_true rfl⟩ rfl rfl ⟨Nat.zero_le _, Nat.zero_le _⟩ dX5_cordsFor_25 (fun r_25 g_1 H locs hP hS hp => ?_)
  obtain ⟨hr_25, hM, hF1⟩ := hp
  subst hr_25
  have hFr := hFr.tr (hF1.mono (by intro x9 hx9; first | (dsimp only [zOne, zRg, zCl] at hx9 ⊢; omega) | (dsimp only at hx9 ⊢; omega) | omega))
  refine z_topi (y := 0) (if_neg (by decide)) ?_
  refine lv_if_eq (tgt := 39) hx hb dX5_cordsFor_28 (by decide) (fun c_28 => ?_) (fun c_28 => absurd c_28 (by decide))
  refine lv_iconst (v := 0) hx hb dX5_cordsFor_39 (by decide) ?_
  exact z_iret C0 hP hS hr (⟨rfl, hM, hFr⟩) dX5_cordsFor_40
