set_option maxHeartbeats 4000000 in
set_option maxRecDepth 100000 in
theorem m_J6_compare_7cf53 (l : Launch) {D : va_G} {cy : Nat → ClassId} {K : Nat} {ad : Nat → Nat} {g : Nat → va_E} (sz : Nat) {ax bx : Int32}  : Met l yJ6_compare_7cf53 (zs yJ6_compare_7cf53 cJ6_compare_7cf53 2 (some .int)) ({ frames := 0, cells := 0, slots := 0, locals := 0 } : Room) (va_Pc [.int ax, .int bx] (zIn D cy K ad g sz)) (va_Qi (fun r g1 => g1 = g ∧ r = cmpI ax bx) (zOut D cy K ad sz) (zA K ad sz)) 0 0 (zA K ad sz) := by
  refine z_met (by decide) (Nat.le_of_ble_eq_true rfl) (fun p e s m below meth c ls hsz hl C0 hr hnm hP hS => ?_)
  subst hsz
  have hl : lv_has ls 2 [(0, .int ax), (1, .int bx)] := hl
  have hx := C0.1; have hb := C0.2.1; have hown := C0.2.2.2.1; have hts := C0.2.2.2.2.1
  refine lv_iload_n hx hb dJ6_compare_7cf53_0 rfl (lv_at hl 0 rfl) ?_
  refine lv_iload_n hx hb dJ6_compare_7cf53_1 rfl (lv_at hl 1 rfl) ?_
  refine lv_icmp_ge (tgt := 9) hx hb dJ6_compare_7cf53_2 (by decide) (fun c_2 => ?_) (fun c_2 => ?_)
  · refine lv_iload_n hx hb dJ6_compare_7cf53_9 rfl (lv_at hl 0 rfl) ?_
    refine lv_iload_n hx hb dJ6_compare_7cf53_10 rfl (lv_at hl 1 rfl) ?_
    refine lv_icmp_ne (tgt := 18) hx hb dJ6_compare_7cf53_11 (by decide) (fun c_11 => ?_) (fun c_11 => ?_)
    · refine lv_iconst (v := 1) hx hb dJ6_compare_7cf53_18 (by decide) ?_
      exact z_iret C0 hP hS hr (⟨rfl, ((if_pos c_2).trans (if_neg c_11)).symm⟩) dJ6_compare_7cf53_19
    · refine lv_iconst (v := 0) hx hb dJ6_compare_7cf53_14 (by decide) ?_
      refine lv_goto (tgt := 19) hx hb dJ6_compare_7cf53_15 (by decide) ?_
      exact z_iret C0 hP hS hr (⟨rfl, ((if_pos c_2).trans (if_pos c_11)).symm⟩) dJ6_compare_7cf53_19
  · refine lv_iconst (v := (-1)) hx hb dJ6_compare_7cf53_5 (by decide) ?_
    refine lv_goto (tgt := 19) hx hb dJ6_compare_7cf53_6 (by decide) ?_
    exact z_iret C0 hP hS hr (⟨rfl, (if_neg c_2).symm⟩) dJ6_compare_7cf53_19
set_option maxHeartbeats 4000000 in
set_option maxRecDepth 100000 in
theorem m_J6_bitCount_0f7a4 (l : Launch) {D : va_G} {cy : Nat → ClassId} {K : Nat} {ad : Nat → Nat} {g : Nat → va_E} (sz : Nat) {ax : Int32}  : Met l yJ6_bitCount_0f7a4 (zs yJ6_bitCount_0f7a4 cJ6_bitCount_0f7a4 1 (some .int)) ({ frames := 0, cells := 0, slots := 0, locals := 0 } : Room) (va_Pc [.int ax] (zIn D cy K ad g sz)) (va_Qi (fun r g1 => g1 = g ∧ r = bcI ax) (zOut D cy K ad sz) (zA K ad sz)) 0 0 (zA K ad sz) := by
  refine z_met (by decide) (Nat.le_of_ble_eq_true rfl) (fun p e s m below meth c ls hsz hl C0 hr hnm hP hS => ?_)
  subst hsz
  have hl : lv_has ls 1 [(0, .int ax)] := hl
  have hx := C0.1; have hb := C0.2.1; have hown := C0.2.2.2.1; have hts := C0.2.2.2.2.1
  refine lv_iload_n hx hb dJ6_bitCount_0f7a4_0 rfl (lv_at hl 0 rfl) ?_
  refine lv_iload_n hx hb dJ6_bitCount_0f7a4_1 rfl (lv_at hl 0 rfl) ?_
  refine lv_iconst (v := 1) hx hb dJ6_bitCount_0f7a4_2 (by decide) ?_
  refine lv_iushr hx hb dJ6_bitCount_0f7a4_3 rfl ?_
  refine lv_ldcw hx hb hown (hts _ q578) dJ6_bitCount_0f7a4_4 ?_
  refine lv_iand hx hb dJ6_bitCount_0f7a4_7 ?_
  refine lv_isub hx hb dJ6_bitCount_0f7a4_8 ?_
  refine z_topi (y := bc1 ax) rfl ?_
  refine lv_istore_n (lv' := [(0, .int (bc1 ax))]) hx hb dJ6_bitCount_0f7a4_9 rfl hl (by decide) rfl (fun ls hl => ?_)
  refine lv_iload_n hx hb dJ6_bitCount_0f7a4_10 rfl (lv_at hl 0 rfl) ?_
  refine lv_ldcw hx hb hown (hts _ q579) dJ6_bitCount_0f7a4_11 ?_
  refine lv_iand hx hb dJ6_bitCount_0f7a4_14 ?_
  refine lv_iload_n hx hb dJ6_bitCount_0f7a4_15 rfl (lv_at hl 0 rfl) ?_
  refine lv_iconst (v := 2) hx hb dJ6_bitCount_0f7a4_16 (by decide) ?_
  refine lv_iushr hx hb dJ6_bitCount_0f7a4_17 rfl ?_
  refine lv_ldcw hx hb hown (hts _ q579) dJ6_bitCount_0f7a4_18 ?_
  refine lv_iand hx hb dJ6_bitCount_0f7a4_21 ?_
  refine lv_iadd hx hb dJ6_bitCount_0f7a4_22 ?_
  refine z_topi (y := bc2 (bc1 ax)) rfl ?_
  refine lv_istore_n (lv' := [(0, .int (bc2 (bc1 ax)))]) hx hb dJ6_bitCount_0f7a4_23 rfl hl (by decide) rfl (fun ls hl => ?_)
  refine lv_iload_n hx hb dJ6_bitCount_0f7a4_24 rfl (lv_at hl 0 rfl) ?_
  refine lv_iload_n hx hb dJ6_bitCount_0f7a4_25 rfl (lv_at hl 0 rfl) ?_
  refine lv_iconst (v := 4) hx hb dJ6_bitCount_0f7a4_26 (by decide) ?_
  refine lv_iushr hx hb dJ6_bitCount_0f7a4_27 rfl ?_
  refine lv_iadd hx hb dJ6_bitCount_0f7a4_28 ?_
  refine lv_ldcw hx hb hown (hts _ q580) dJ6_bitCount_0f7a4_29 ?_
  refine lv_iand hx hb dJ6_bitCount_0f7a4_32 ?_
  refine z_topi (y := bc3 (bc2 (bc1 ax))) rfl ?_
  refine lv_istore_n (lv' := [(0, .int (bc3 (bc2 (bc1 ax))))]) hx hb dJ6_bitCount_0f7a4_33 rfl hl (by decide) rfl (fun ls hl => ?_)
  refine lv_iload_n hx hb dJ6_bitCount_0f7a4_34 rfl (lv_at hl 0 rfl) ?_
  refine lv_iload_n hx hb dJ6_bitCount_0f7a4_35 rfl (lv_at hl 0 rfl) ?_
  refine lv_bipush (v := 8) hx hb dJ6_bitCount_0f7a4_36 (by decide) ?_
  refine lv_iushr hx hb dJ6_bitCount_0f7a4_38 rfl ?_
  refine lv_iadd hx hb dJ6_bitCount_0f7a4_39 ?_
  refine z_topi (y := bc4 (bc3 (bc2 (bc1 ax)))) rfl ?_
  refine lv_istore_n (lv' := [(0, .int (bc4 (bc3 (bc2 (bc1 ax)))))]) hx hb dJ6_bitCount_0f7a4_40 rfl hl (by decide) rfl (fun ls hl => ?_)
  refine lv_iload_n hx hb dJ6_bitCount_0f7a4_41 rfl (lv_at hl 0 rfl) ?_
  refine lv_iload_n hx hb dJ6_bitCount_0f7a4_42 rfl (lv_at hl 0 rfl) ?_
  refine lv_bipush (v := 16) hx hb dJ6_bitCount_0f7a4_43 (by decide) ?_
  refine lv_iushr hx hb dJ6_bitCount_0f7a4_45 rfl ?_
  refine lv_iadd hx hb dJ6_bitCount_0f7a4_46 ?_
  refine z_topi (y := bc5 (bc4 (bc3 (bc2 (bc1 ax))))) rfl ?_
  refine lv_istore_n (lv' := [(0, .int (bc5 (bc4 (bc3 (bc2 (bc1 ax))))))]) hx hb dJ6_bitCount_0f7a4_47 rfl hl (by decide) rfl (fun ls hl => ?_)
  refine lv_iload_n hx hb dJ6_bitCount_0f7a4_48 rfl (lv_at hl 0 rfl) ?_
  refine lv_bipush (v := 63) hx hb dJ6_bitCount_0f7a4_49 (by decide) ?_
  refine lv_iand hx hb dJ6_bitCount_0f7a4_51 ?_
  exact z_iret C0 hP hS hr (⟨rfl, rfl⟩) dJ6_bitCount_0f7a4_52
set_option maxHeartbeats 4000000 in
set_option maxRecDepth 100000 in
theorem m_X4_better (l : Launch) {D : va_G} {cy : Nat → ClassId} {K : Nat} {ad : Nat → Nat} {g : Nat → va_E} (sz : Nat) {zm be : Int32}  : Met l yX4_better (zs yX4_better cX4_better 3 (some .int)) ({ frames := 1, cells := 0, slots := 0, locals := 21 } : Room) (va_Pc [.int zm, .int be] (zIn D cy K ad g sz)) (va_Qi (fun r g1 => g1 = g ∧ r = betF zm be) (zOut D cy K ad sz) (zA K ad sz)) 0 0 (zA K ad sz) := by
  refine z_met (by decide) (Nat.le_of_ble_eq_true rfl) (fun p e s m below meth c ls hsz hl C0 hr hnm hP hS => ?_)
  subst hsz
  have hl : lv_has ls 3 [(0, .int zm), (1, .int be)] := hl
  have hx := C0.1; have hb := C0.2.1; have hown := C0.2.2.2.1; have hts := C0.2.2.2.2.1
  refine lv_iload_n hx hb dX4_better_0 rfl (lv_at hl 1 rfl) ?_
  refine lv_iconst (v := (-1)) hx hb dX4_better_1 (by decide) ?_
  refine lv_icmp_ne (tgt := 7) hx hb dX4_better_2 (by decide) (fun c_2 => ?_) (fun c_2 => ?_)
  · refine lv_iload_n hx hb dX4_better_7 rfl (lv_at hl 0 rfl) ?_
    refine z_Si_eq (As := [.int zm]) (rest := []) C0 hP hS hl.1 (m_J6_bitCount_0f7a4 l _ ) lk_X4_315 rfl rfl (Nat.le_of_ble_eq_true rfl) ⟨Nat.le_of_ble_eq_true rfl, Nat.le_of_ble_eq_true rfl⟩ rfl rfl ⟨Nat.zero_le _, Nat.zero_le _⟩ dX4_better_8 (fun H locs hP hS => ?_)
    refine lv_iload_n hx hb dX4_better_11 rfl (lv_at hl 1 rfl) ?_
    refine z_Si_eq (As := [.int be]) (rest := [.int (bcI zm)]) C0 hP hS hl.1 (m_J6_bitCount_0f7a4 l _ ) lk_X4_315 rfl rfl (Nat.le_of_ble_eq_true rfl) ⟨Nat.le_of_ble_eq_true rfl, Nat.le_of_ble_eq_true rfl⟩ rfl rfl ⟨Nat.zero_le _, Nat.zero_le _⟩ dX4_better_12 (fun H locs hP hS => ?_)
    refine z_Si_eq (As := [.int (bcI zm), .int (bcI be)]) (rest := []) C0 hP hS hl.1 (m_J6_compare_7cf53 l _ ) lk_X4_320 rfl rfl (Nat.le_of_ble_eq_true rfl) ⟨Nat.le_of_ble_eq_true rfl, Nat.le_of_ble_eq_true rfl⟩ rfl rfl ⟨Nat.zero_le _, Nat.zero_le _⟩ dX4_better_15 (fun H locs hP hS => ?_)
    refine lv_istore_n (lv' := [(2, .int (cmpI (bcI zm) (bcI be))), (0, .int zm), (1, .int be)]) hx hb dX4_better_18 rfl hl (by decide) rfl (fun ls hl => ?_)
    refine lv_iload_n hx hb dX4_better_19 rfl (lv_at hl 0 rfl) ?_
    refine lv_if_lt (tgt := 32) hx hb dX4_better_20 (by decide) (fun c_20 => ?_) (fun c_20 => ?_)
    · refine lv_iload_n hx hb dX4_better_32 rfl (lv_at hl 1 rfl) ?_
      refine lv_goto (tgt := 37) hx hb dX4_better_33 (by decide) ?_
      exact z_iret C0 hP hS hr (⟨rfl, by unfold betF; rw [if_neg c_2]; first | rw [if_pos c_20] | (rw [if_neg c_20, if_neg c_24]) | (rw [if_neg c_20, if_pos c_24, if_pos c_29]) | (rw [if_neg c_20, if_pos c_24, if_neg c_29])⟩) dX4_better_37
    · refine lv_iload_n hx hb dX4_better_23 rfl (lv_at hl 0 rfl) ?_
      refine lv_if_ne (tgt := 36) hx hb dX4_better_24 (by decide) (fun c_24 => ?_) (fun c_24 => ?_)
      · refine lv_iload_n hx hb dX4_better_36 rfl (lv_at hl 2 rfl) ?_
        exact z_iret C0 hP hS hr (⟨rfl, by unfold betF; rw [if_neg c_2]; first | rw [if_pos c_20] | (rw [if_neg c_20, if_neg c_24]) | (rw [if_neg c_20, if_pos c_24, if_pos c_29]) | (rw [if_neg c_20, if_pos c_24, if_neg c_29])⟩) dX4_better_37
      · refine lv_iload_n hx hb dX4_better_27 rfl (lv_at hl 1 rfl) ?_
        refine lv_iload_n hx hb dX4_better_28 rfl (lv_at hl 2 rfl) ?_
        refine lv_icmp_ge (tgt := 36) hx hb dX4_better_29 (by decide) (fun c_29 => ?_) (fun c_29 => ?_)
        · refine lv_iload_n hx hb dX4_better_36 rfl (lv_at hl 2 rfl) ?_
          exact z_iret C0 hP hS hr (⟨rfl, by unfold betF; rw [if_neg c_2]; first | rw [if_pos c_20] | (rw [if_neg c_20, if_neg c_24]) | (rw [if_neg c_20, if_pos c_24, if_pos c_29]) | (rw [if_neg c_20, if_pos c_24, if_neg c_29])⟩) dX4_better_37
        · refine lv_iload_n hx hb dX4_better_32 rfl (lv_at hl 1 rfl) ?_
          refine lv_goto (tgt := 37) hx hb dX4_better_33 (by decide) ?_
          exact z_iret C0 hP hS hr (⟨rfl, by unfold betF; rw [if_neg c_2]; first | rw [if_pos c_20] | (rw [if_neg c_20, if_neg c_24]) | (rw [if_neg c_20, if_pos c_24, if_pos c_29]) | (rw [if_neg c_20, if_pos c_24, if_neg c_29])⟩) dX4_better_37
  · refine lv_iload_n hx hb dX4_better_5 rfl (lv_at hl 0 rfl) ?_
    exact z_iret C0 hP hS hr (⟨rfl, (if_pos c_2).symm⟩) dX4_better_6
set_option maxHeartbeats 4000000 in
set_option maxRecDepth 100000 in
theorem m_X4_toldBySet (l : Launch) {D : va_G} {cy : Nat → ClassId} {K : Nat} {ad : Nat → Nat} {g : Nat → va_E} (sz : Nat) {tz : Nat} {tl : Nat → Int32} {zm : Int32} (hA : isA cy K ad g tz 7 tl) : Met l yX4_toldBySet (zs yX4_toldBySet cX4_toldBySet 4 (some .int)) ({ frames := 0, cells := 0, slots := 0, locals := 0 } : Room) (va_Pc [.ref (ad tz), .int zm] (zIn D cy K ad g sz)) (va_Qi (fun r g1 => g1 = g ∧ r = setT tl zm 7) (zOut D cy K ad sz) (zA K ad sz)) 0 0 (zA K ad sz) := by
  refine z_met (by decide) (Nat.le_of_ble_eq_true rfl) (fun p e s m below meth c ls hsz hl C0 hr hnm hP hS => ?_)
  subst hsz
  have hl : lv_has ls 4 [(0, .ref (ad tz)), (1, .int zm)] := hl
  have hx := C0.1; have hb := C0.2.1; have hown := C0.2.2.2.1; have hts := C0.2.2.2.2.1
  refine lv_iconst (v := 0) hx hb dX4_toldBySet_0 (by decide) ?_
  refine lv_istore_n (lv' := [(2, .int 0), (0, .ref (ad tz)), (1, .int zm)]) hx hb dX4_toldBySet_1 rfl hl (by decide) rfl (fun ls hl => ?_)
  refine lv_iconst (v := (nI 0)) hx hb dX4_toldBySet_2 (by decide) ?_
  refine lv_istore_n (lv' := [(3, .int (nI 0)), (2, .int 0), (0, .ref (ad tz)), (1, .int zm)]) hx hb dX4_toldBySet_3 rfl hl (by decide) rfl (fun ls hl => ?_)
  have lp_4 : ∀ (N : Nat) (kz : Nat) (hk : kz ≤ 7), 7 - kz < N → ∀ (H : Heap) (locs : List Loc) (ls : Array Slot), zP D K ad g (zA K ad s.heap.size) H → va_S (zA K ad s.heap.size) s.heap H locs → lv_has ls 4 [(0, .ref (ad tz)), (1, .int zm), (2, .int (setT tl zm kz)), (3, .int (nI kz))] → W p l e ({ frames := 0, cells := 0, slots := 0, locals := 0 } : Room) s m [.ref (ad tz), .int zm].toArray below meth c H locs 0 0 (MQ below (va_Qi (fun r g1 => g1 = g ∧ r = setT tl zm 7) (zOut D cy K ad s.heap.size) (zA K ad s.heap.size)) [.ref (ad tz), .int zm].toArray s 0 0 (zA K ad s.heap.size)) (F0 m 4 ls []) := by
    intro N
    induction N with
    | zero => intro kz hk hN; exact absurd hN (Nat.not_lt_zero _)
    | succ N ih_4 =>
      intro kz hk hN H locs ls hP hS  hl
      refine lv_iload_n hx hb dX4_toldBySet_4 rfl (lv_at hl 3 rfl) ?_
      refine lv_bipush (v := 7) hx hb dX4_toldBySet_5 (by decide) ?_
      refine lv_icmp_ge (tgt := 31) hx hb dX4_toldBySet_7 (by decide) (fun c_7 => ?_) (fun c_7 => ?_)
      · have hk2 : kz = 7 := by have := z_ge_t (b := 7) c_7 (by omega) (by omega); omega
        subst hk2
        refine lv_iload_n hx hb dX4_toldBySet_31 rfl (lv_at hl 2 rfl) ?_
        exact z_iret C0 hP hS hr (⟨rfl, rfl⟩) dX4_toldBySet_32
      · have hk2 : kz < 7 := z_ge_f (b := 7) c_7 (by omega) (by omega)
        refine lv_iload_n hx hb dX4_toldBySet_10 rfl (lv_at hl 1 rfl) ?_
        refine lv_iload_n hx hb dX4_toldBySet_11 rfl (lv_at hl 3 rfl) ?_
        refine lv_ishr hx hb dX4_toldBySet_12 ?_
        refine lv_iconst (v := 1) hx hb dX4_toldBySet_13 (by decide) ?_
        refine lv_iand hx hb dX4_toldBySet_14 ?_
        refine z_topi (y := bitI zm (nI kz)) rfl ?_
        refine lv_iconst (v := 1) hx hb dX4_toldBySet_15 (by decide) ?_
        refine lv_icmp_ne (tgt := 25) hx hb dX4_toldBySet_16 (by decide) (fun c_16 => ?_) (fun c_16 => ?_)
        · have e2 : setT tl zm kz = setT tl zm (kz + 1) := (if_neg c_16).symm
          rw [e2] at hl
          refine lv_iinc (v := nI (kz + 1)) (lv' := [(3, .int (nI (kz + 1))), (0, .ref (ad tz)), (1, .int zm), (2, .int (setT tl zm (kz + 1)))]) hx hb dX4_toldBySet_25 hl (k := 3) rfl (z_inc _) (by decide) rfl (fun ls hl => ?_)
          refine lv_goto (tgt := 4) hx hb dX4_toldBySet_28 (by decide) ?_
          exact ih_4 (kz + 1) hk2 (by omega) _ _ _ hP hS  (lv_sub hl [1, 2, 3, 0] rfl)
        · refine lv_iload_n hx hb dX4_toldBySet_19 rfl (lv_at hl 2 rfl) ?_
          refine lv_aload_n hx hb dX4_toldBySet_20 rfl (lv_at hl 0 rfl) ?_
          refine lv_iload_n hx hb dX4_toldBySet_21 rfl (lv_at hl 3 rfl) ?_
          refine z_iald C0 hP hA.n0 hA.a_fn (zIx_nI (by omega) (by decide)) dX4_toldBySet_22 ?_
          refine lv_iadd hx hb dX4_toldBySet_23 ?_
          refine z_topi (y := setT tl zm (kz + 1)) ((if_pos c_16).symm) ?_
          refine lv_istore_n (lv' := [(2, .int (setT tl zm (kz + 1))), (0, .ref (ad tz)), (1, .int zm), (3, .int (nI kz))]) hx hb dX4_toldBySet_24 rfl hl (by decide) rfl (fun ls hl => ?_)
          refine lv_iinc (v := nI (kz + 1)) (lv' := [(3, .int (nI (kz + 1))), (2, .int (setT tl zm (kz + 1))), (0, .ref (ad tz)), (1, .int zm)]) hx hb dX4_toldBySet_25 hl (k := 3) rfl (z_inc _) (by decide) rfl (fun ls hl => ?_)
          refine lv_goto (tgt := 4) hx hb dX4_toldBySet_28 (by decide) ?_
          exact ih_4 (kz + 1) hk2 (by omega) _ _ _ hP hS  (lv_sub hl [2, 3, 1, 0] rfl)
  exact lp_4 _ 0 (Nat.zero_le _) (Nat.lt_succ_self _) _ _ _ hP hS  (lv_sub hl [2, 3, 1, 0] rfl)
set_option maxHeartbeats 4000000 in
set_option maxRecDepth 100000 in
theorem m_X4_bestOfAllSets (l : Launch) {D : va_G} {cy : Nat → ClassId} {K : Nat} {ad : Nat → Nat} {g : Nat → va_E} (sz : Nat) {tz : Nat} {tl : Nat → Int32} {sum : Int32} (hA : isA cy K ad g tz 7 tl) : Met l yX4_bestOfAllSets (zs yX4_bestOfAllSets cX4_bestOfAllSets 4 (some .int)) ({ frames := 2, cells := 0, slots := 0, locals := 43 } : Room) (va_Pc [.ref (ad tz), .int sum] (zIn D cy K ad g sz)) (va_Qi (fun r g1 => g1 = g ∧ r = boA tl sum 127) (zOut D cy K ad sz) (zA K ad sz)) 0 0 (zA K ad sz) := by
  refine z_met (by decide) (Nat.le_of_ble_eq_true rfl) (fun p e s m below meth c ls hsz hl C0 hr hnm hP hS => ?_)
  subst hsz
  have hl : lv_has ls 4 [(0, .ref (ad tz)), (1, .int sum)] := hl
  have hx := C0.1; have hb := C0.2.1; have hown := C0.2.2.2.1; have hts := C0.2.2.2.2.1
  refine lv_iconst (v := (-1)) hx hb dX4_bestOfAllSets_0 (by decide) ?_
  refine lv_istore_n (lv' := [(2, .int (-1)), (0, .ref (ad tz)), (1, .int sum)]) hx hb dX4_bestOfAllSets_1 rfl hl (by decide) rfl (fun ls hl => ?_)
  refine lv_iconst (v := (nI 1)) hx hb dX4_bestOfAllSets_2 (by decide) ?_
  refine lv_istore_n (lv' := [(3, .int (nI 1)), (2, .int (-1)), (0, .ref (ad tz)), (1, .int sum)]) hx hb dX4_bestOfAllSets_3 rfl hl (by decide) rfl (fun ls hl => ?_)
  have lp_4 : ∀ (N : Nat) (kz : Nat) (hk : kz ≤ 127), 127 - kz < N → ∀ (H : Heap) (locs : List Loc) (ls : Array Slot), zP D K ad g (zA K ad s.heap.size) H → va_S (zA K ad s.heap.size) s.heap H locs → lv_has ls 4 [(0, .ref (ad tz)), (1, .int sum), (2, .int (boA tl sum kz)), (3, .int (nI (kz + 1)))] → W p l e ({ frames := 2, cells := 0, slots := 0, locals := 43 } : Room) s m [.ref (ad tz), .int sum].toArray below meth c H locs 0 0 (MQ below (va_Qi (fun r g1 => g1 = g ∧ r = boA tl sum 127) (zOut D cy K ad s.heap.size) (zA K ad s.heap.size)) [.ref (ad tz), .int sum].toArray s 0 0 (zA K ad s.heap.size)) (F0 m 4 ls []) := by
    intro N
    induction N with
    | zero => intro kz hk hN; exact absurd hN (Nat.not_lt_zero _)
    | succ N ih_4 =>
      intro kz hk hN H locs ls hP hS  hl
      refine lv_iload_n hx hb dX4_bestOfAllSets_4 rfl (lv_at hl 3 rfl) ?_
      refine lv_sipush (v := 128) hx hb dX4_bestOfAllSets_5 (by decide) ?_
      refine lv_icmp_ge (tgt := 32) hx hb dX4_bestOfAllSets_8 (by decide) (fun c_8 => ?_) (fun c_8 => ?_)
      · have hk2 : kz = 127 := by have := z_ge_t (b := 128) c_8 (by omega) (by omega); omega
        subst hk2
        refine lv_iload_n hx hb dX4_bestOfAllSets_32 rfl (lv_at hl 2 rfl) ?_
        exact z_iret C0 hP hS hr (⟨rfl, rfl⟩) dX4_bestOfAllSets_33
      · have hk2 : kz + 1 ≤ 127 := by have := z_ge_f (b := 128) c_8 (by omega) (by omega); omega
        refine lv_aload_n hx hb dX4_bestOfAllSets_11 rfl (lv_at hl 0 rfl) ?_
        refine lv_iload_n hx hb dX4_bestOfAllSets_12 rfl (lv_at hl 3 rfl) ?_
        refine z_Si_eq (As := [.ref (ad tz), .int (nI (kz + 1))]) (rest := []) C0 hP hS hl.1 (m_X4_toldBySet l _ hA) lk_X4_309 rfl rfl (Nat.le_of_ble_eq_true rfl) ⟨Nat.le_of_ble_eq_true rfl, Nat.le_of_ble_eq_true rfl⟩ rfl rfl ⟨Nat.zero_le _, Nat.zero_le _⟩ dX4_bestOfAllSets_13 (fun H locs hP hS => ?_)
        refine lv_iload_n hx hb dX4_bestOfAllSets_16 rfl (lv_at hl 1 rfl) ?_
        refine lv_icmp_ne (tgt := 26) hx hb dX4_bestOfAllSets_17 (by decide) (fun c_17 => ?_) (fun c_17 => ?_)
        · have e2 : boA tl sum kz = boA tl sum (kz + 1) := (if_neg c_17).symm
          rw [e2] at hl
          refine lv_iinc (v := nI ((kz + 1) + 1)) (lv' := [(3, .int (nI ((kz + 1) + 1))), (0, .ref (ad tz)), (1, .int sum), (2, .int (boA tl sum (kz + 1)))]) hx hb dX4_bestOfAllSets_26 hl (k := 3) rfl (z_inc _) (by decide) rfl (fun ls hl => ?_)
          refine lv_goto (tgt := 4) hx hb dX4_bestOfAllSets_29 (by decide) ?_
          exact ih_4 (kz + 1) hk2 (by omega) _ _ _ hP hS  (lv_sub hl [1, 2, 3, 0] rfl)
        · refine lv_iload_n hx hb dX4_bestOfAllSets_20 rfl (lv_at hl 3 rfl) ?_
          refine lv_iload_n hx hb dX4_bestOfAllSets_21 rfl (lv_at hl 2 rfl) ?_
          refine z_Si_eq (As := [.int (nI (kz + 1)), .int (boA tl sum kz)]) (rest := []) C0 hP hS hl.1 (m_X4_better l _ ) lk_X4_312 rfl rfl (Nat.le_of_ble_eq_true rfl) ⟨Nat.le_of_ble_eq_true rfl, Nat.le_of_ble_eq_true rfl⟩ rfl rfl ⟨Nat.zero_le _, Nat.zero_le _⟩ dX4_bestOfAllSets_22 (fun H locs hP hS => ?_)
          refine z_topi (y := boA tl sum (kz + 1)) ((if_pos c_17).symm) ?_
          refine lv_istore_n (lv' := [(2, .int (boA tl sum (kz + 1))), (0, .ref (ad tz)), (1, .int sum), (3, .int (nI (kz + 1)))]) hx hb dX4_bestOfAllSets_25 rfl hl (by decide) rfl (fun ls hl => ?_)
          refine lv_iinc (v := nI ((kz + 1) + 1)) (lv' := [(3, .int (nI ((kz + 1) + 1))), (2, .int (boA tl sum (kz + 1))), (0, .ref (ad tz)), (1, .int sum)]) hx hb dX4_bestOfAllSets_26 hl (k := 3) rfl (z_inc _) (by decide) rfl (fun ls hl => ?_)
          refine lv_goto (tgt := 4) hx hb dX4_bestOfAllSets_29 (by decide) ?_
          exact ih_4 (kz + 1) hk2 (by omega) _ _ _ hP hS  (lv_sub hl [2, 3, 1, 0] rfl)
  exact lp_4 _ 0 (Nat.zero_le _) (Nat.lt_succ_self _) _ _ _ hP hS  (lv_sub hl [2, 3, 1, 0] rfl)
set_option maxHeartbeats 4000000 in
set_option maxRecDepth 100000 in
theorem m_X4_bestByTrying_0 (l : Launch) {D : va_G} {cy : Nat → ClassId} {K : Nat} {ad : Nat → Nat} {g : Nat → va_E} (sz : Nat) {tz : Nat} {tl : Nat → Int32} {left zm be : Int32} (hA : isA cy K ad g tz 7 tl) : Met l yX4_bestByTrying (zs yX4_bestByTrying cX4_bestByTrying 6 (some .int)) ({ frames := 3, cells := 0, slots := 0, locals := 120 } : Room) (va_Pc [.ref (ad tz), .int (nI 7), .int left, .int zm, .int be] (zIn D cy K ad g sz)) (va_Qi (fun r g1 => g1 = g ∧ r = btF tl 0 left zm be) (zOut D cy K ad sz) (zA K ad sz)) 0 0 (zA K ad sz) := by
  refine z_met (by decide) (Nat.le_of_ble_eq_true rfl) (fun p e s m below meth c ls hsz hl C0 hr hnm hP hS => ?_)
  subst hsz
  have hl : lv_has ls 6 [(0, .ref (ad tz)), (1, .int (nI 7)), (2, .int left), (3, .int zm), (4, .int be)] := hl
  have hx := C0.1; have hb := C0.2.1; have hown := C0.2.2.2.1; have hts := C0.2.2.2.2.1
  refine lv_iload_n hx hb dX4_bestByTrying_0 rfl (lv_at hl 2 rfl) ?_
  refine lv_if_ne (tgt := 11) hx hb dX4_bestByTrying_1 (by decide) (fun c_1 => ?_) (fun c_1 => ?_)
  · refine lv_iload_n hx hb dX4_bestByTrying_11 rfl (lv_at hl 2 rfl) ?_
    refine lv_if_lt (tgt := 21) hx hb dX4_bestByTrying_12 (by decide) (fun c_12 => ?_) (fun c_12 => ?_)
    · refine lv_iload hx hb dX4_bestByTrying_21 (lv_at hl 4 rfl) ?_
      exact z_iret C0 hP hS hr (⟨rfl, (if_neg c_1).symm⟩) dX4_bestByTrying_23
    · refine lv_iload_n hx hb dX4_bestByTrying_15 rfl (lv_at hl 1 rfl) ?_
      refine lv_bipush (v := 7) hx hb dX4_bestByTrying_16 (by decide) ?_
      refine lv_icmp_lt (tgt := 24) hx hb dX4_bestByTrying_18 (by decide) (fun c_18 => absurd c_18 (by decide)) (fun c_18 => ?_)
      refine lv_iload hx hb dX4_bestByTrying_21 (lv_at hl 4 rfl) ?_
      exact z_iret C0 hP hS hr (⟨rfl, (if_neg c_1).symm⟩) dX4_bestByTrying_23
  · refine lv_iload_n hx hb dX4_bestByTrying_4 rfl (lv_at hl 3 rfl) ?_
    refine lv_iload hx hb dX4_bestByTrying_5 (lv_at hl 4 rfl) ?_
    refine z_Si_eq (As := [.int zm, .int be]) (rest := []) C0 hP hS hl.1 (m_X4_better l _ ) lk_X4_312 rfl rfl (Nat.le_of_ble_eq_true rfl) ⟨Nat.le_of_ble_eq_true rfl, Nat.le_of_ble_eq_true rfl⟩ rfl rfl ⟨Nat.zero_le _, Nat.zero_le _⟩ dX4_bestByTrying_7 (fun H locs hP hS => ?_)
    exact z_iret C0 hP hS hr (⟨rfl, (by first | exact (if_pos c_1).symm | exact (if_pos (by simpa using c_1)).symm)⟩) dX4_bestByTrying_10
set_option maxHeartbeats 4000000 in
set_option maxRecDepth 100000 in
theorem m_X4_bestByTrying_1 (l : Launch) {D : va_G} {cy : Nat → ClassId} {K : Nat} {ad : Nat → Nat} {g : Nat → va_E} (sz : Nat) {tz : Nat} {tl : Nat → Int32} {left zm be : Int32} (hA : isA cy K ad g tz 7 tl) : Met l yX4_bestByTrying (zs yX4_bestByTrying cX4_bestByTrying 6 (some .int)) ({ frames := 4, cells := 0, slots := 0, locals := 145 } : Room) (va_Pc [.ref (ad tz), .int (nI 6), .int left, .int zm, .int be] (zIn D cy K ad g sz)) (va_Qi (fun r g1 => g1 = g ∧ r = btF tl 1 left zm be) (zOut D cy K ad sz) (zA K ad sz)) 0 0 (zA K ad sz) := by
  refine z_met (by decide) (Nat.le_of_ble_eq_true rfl) (fun p e s m below meth c ls hsz hl C0 hr hnm hP hS => ?_)
  subst hsz
  have hl : lv_has ls 6 [(0, .ref (ad tz)), (1, .int (nI 6)), (2, .int left), (3, .int zm), (4, .int be)] := hl
  have hx := C0.1; have hb := C0.2.1; have hown := C0.2.2.2.1; have hts := C0.2.2.2.2.1
  refine lv_iload_n hx hb dX4_bestByTrying_0 rfl (lv_at hl 2 rfl) ?_
  refine lv_if_ne (tgt := 11) hx hb dX4_bestByTrying_1 (by decide) (fun c_1 => ?_) (fun c_1 => ?_)
  · refine lv_iload_n hx hb dX4_bestByTrying_11 rfl (lv_at hl 2 rfl) ?_
    refine lv_if_lt (tgt := 21) hx hb dX4_bestByTrying_12 (by decide) (fun c_12 => ?_) (fun c_12 => ?_)
    · refine lv_iload hx hb dX4_bestByTrying_21 (lv_at hl 4 rfl) ?_
      exact z_iret C0 hP hS hr (⟨rfl, ((if_neg c_1).trans (if_pos c_12)).symm⟩) dX4_bestByTrying_23
    · refine lv_iload_n hx hb dX4_bestByTrying_15 rfl (lv_at hl 1 rfl) ?_
      refine lv_bipush (v := 7) hx hb dX4_bestByTrying_16 (by decide) ?_
      refine lv_icmp_lt (tgt := 24) hx hb dX4_bestByTrying_18 (by decide) (fun c_18 => ?_) (fun c_18 => absurd (by decide) c_18)
      refine lv_aload_n hx hb dX4_bestByTrying_24 rfl (lv_at hl 0 rfl) ?_
      refine lv_iload_n hx hb dX4_bestByTrying_25 rfl (lv_at hl 1 rfl) ?_
      refine lv_iconst (v := 1) hx hb dX4_bestByTrying_26 (by decide) ?_
      refine lv_iadd hx hb dX4_bestByTrying_27 ?_
      refine z_topi (y := nI 7) rfl ?_
      refine lv_iload_n hx hb dX4_bestByTrying_28 rfl (lv_at hl 2 rfl) ?_
      refine lv_aload_n hx hb dX4_bestByTrying_29 rfl (lv_at hl 0 rfl) ?_
      refine lv_iload_n hx hb dX4_bestByTrying_30 rfl (lv_at hl 1 rfl) ?_
      refine z_iald C0 hP hA.n0 hA.a_fn (zIx_nI (by omega) (by decide)) dX4_bestByTrying_31 ?_
      refine lv_isub hx hb dX4_bestByTrying_32 ?_
      refine lv_iload_n hx hb dX4_bestByTrying_33 rfl (lv_at hl 3 rfl) ?_
      refine lv_iconst (v := 1) hx hb dX4_bestByTrying_34 (by decide) ?_
      refine lv_iload_n hx hb dX4_bestByTrying_35 rfl (lv_at hl 1 rfl) ?_
      refine lv_ishl hx hb dX4_bestByTrying_36 ?_
      refine lv_ior hx hb dX4_bestByTrying_37 ?_
      refine lv_iload hx hb dX4_bestByTrying_38 (lv_at hl 4 rfl) ?_
      refine z_Si_eq (As := [.ref (ad tz), .int (nI 7), .int (left - (tl 6)), .int (zm ||| (1 <<< ((nI 6) &&& 31))), .int be]) (rest := []) C0 hP hS hl.1 (m_X4_bestByTrying_0 l _ hA) lk_X4_240 rfl rfl (Nat.le_of_ble_eq_true rfl) ⟨Nat.le_of_ble_eq_true rfl, Nat.le_of_ble_eq_true rfl⟩ rfl rfl ⟨Nat.zero_le _, Nat.zero_le _⟩ dX4_bestByTrying_40 (fun H locs hP hS => ?_)
      refine lv_istore (lv' := [(5, .int (btF tl 0 (left - tl 6) (zm ||| 1 <<< (nI 6 &&& 31)) be)), (0, .ref (ad tz)), (1, .int (nI 6)), (2, .int left), (3, .int zm), (4, .int be)]) hx hb dX4_bestByTrying_43 hl (by decide) rfl (fun ls hl => ?_)
      refine lv_aload_n hx hb dX4_bestByTrying_45 rfl (lv_at hl 1 rfl) ?_
      refine lv_iload_n hx hb dX4_bestByTrying_46 rfl (lv_at hl 2 rfl) ?_
      refine lv_iconst (v := 1) hx hb dX4_bestByTrying_47 (by decide) ?_
      refine lv_iadd hx hb dX4_bestByTrying_48 ?_
      refine z_topi (y := nI 7) rfl ?_
      refine lv_iload_n hx hb dX4_bestByTrying_49 rfl (lv_at hl 3 rfl) ?_
      refine lv_iload_n hx hb dX4_bestByTrying_50 rfl (lv_at hl 4 rfl) ?_
      refine lv_iload hx hb dX4_bestByTrying_51 (lv_at hl 0 rfl) ?_
      refine z_Si_eq (As := [.ref (ad tz), .int (nI 7), .int left, .int zm, .int (btF tl 0 (left - tl 6) (zm ||| 1 <<< (nI 6 &&& 31)) be)]) (rest := []) C0 hP hS hl.1 (m_X4_bestByTrying_0 l _ hA) lk_X4_240 rfl rfl (Nat.le_of_ble_eq_true rfl) ⟨Nat.le_of_ble_eq_true rfl, Nat.le_of_ble_eq_true rfl⟩ rfl rfl ⟨Nat.zero_le _, Nat.zero_le _⟩ dX4_bestByTrying_53 (fun H locs hP hS => ?_)
      exact z_iret C0 hP hS hr (⟨rfl, ((if_neg c_1).trans (if_neg c_12)).symm⟩) dX4_bestByTrying_56
  · refine lv_iload_n hx hb dX4_bestByTrying_4 rfl (lv_at hl 3 rfl) ?_
    refine lv_iload hx hb dX4_bestByTrying_5 (lv_at hl 4 rfl) ?_
    refine z_Si_eq (As := [.int zm, .int be]) (rest := []) C0 hP hS hl.1 (m_X4_better l _ ) lk_X4_312 rfl rfl (Nat.le_of_ble_eq_true rfl) ⟨Nat.le_of_ble_eq_true rfl, Nat.le_of_ble_eq_true rfl⟩ rfl rfl ⟨Nat.zero_le _, Nat.zero_le _⟩ dX4_bestByTrying_7 (fun H locs hP hS => ?_)
    exact z_iret C0 hP hS hr (⟨rfl, (by first | exact (if_pos c_1).symm | exact (if_pos (by simpa using c_1)).symm)⟩) dX4_bestByTrying_10
set_option maxHeartbeats 4000000 in
set_option maxRecDepth 100000 in
theorem m_X4_bestByTrying_2 (l : Launch) {D : va_G} {cy : Nat → ClassId} {K : Nat} {ad : Nat → Nat} {g : Nat → va_E} (sz : Nat) {tz : Nat} {tl : Nat → Int32} {left zm be : Int32} (hA : isA cy K ad g tz 7 tl) : Met l yX4_bestByTrying (zs yX4_bestByTrying cX4_bestByTrying 6 (some .int)) ({ frames := 5, cells := 0, slots := 0, locals := 170 } : Room) (va_Pc [.ref (ad tz), .int (nI 5), .int left, .int zm, .int be] (zIn D cy K ad g sz)) (va_Qi (fun r g1 => g1 = g ∧ r = btF tl 2 left zm be) (zOut D cy K ad sz) (zA K ad sz)) 0 0 (zA K ad sz) := by
  refine z_met (by decide) (Nat.le_of_ble_eq_true rfl) (fun p e s m below meth c ls hsz hl C0 hr hnm hP hS => ?_)
  subst hsz
  have hl : lv_has ls 6 [(0, .ref (ad tz)), (1, .int (nI 5)), (2, .int left), (3, .int zm), (4, .int be)] := hl
  have hx := C0.1; have hb := C0.2.1; have hown := C0.2.2.2.1; have hts := C0.2.2.2.2.1
  refine lv_iload_n hx hb dX4_bestByTrying_0 rfl (lv_at hl 2 rfl) ?_
  refine lv_if_ne (tgt := 11) hx hb dX4_bestByTrying_1 (by decide) (fun c_1 => ?_) (fun c_1 => ?_)
  · refine lv_iload_n hx hb dX4_bestByTrying_11 rfl (lv_at hl 2 rfl) ?_
    refine lv_if_lt (tgt := 21) hx hb dX4_bestByTrying_12 (by decide) (fun c_12 => ?_) (fun c_12 => ?_)
    · refine lv_iload hx hb dX4_bestByTrying_21 (lv_at hl 4 rfl) ?_
      exact z_iret C0 hP hS hr (⟨rfl, ((if_neg c_1).trans (if_pos c_12)).symm⟩) dX4_bestByTrying_23
    · refine lv_iload_n hx hb dX4_bestByTrying_15 rfl (lv_at hl 1 rfl) ?_
      refine lv_bipush (v := 7) hx hb dX4_bestByTrying_16 (by decide) ?_
      refine lv_icmp_lt (tgt := 24) hx hb dX4_bestByTrying_18 (by decide) (fun c_18 => ?_) (fun c_18 => absurd (by decide) c_18)
      refine lv_aload_n hx hb dX4_bestByTrying_24 rfl (lv_at hl 0 rfl) ?_
      refine lv_iload_n hx hb dX4_bestByTrying_25 rfl (lv_at hl 1 rfl) ?_
      refine lv_iconst (v := 1) hx hb dX4_bestByTrying_26 (by decide) ?_
      refine lv_iadd hx hb dX4_bestByTrying_27 ?_
      refine z_topi (y := nI 6) rfl ?_
      refine lv_iload_n hx hb dX4_bestByTrying_28 rfl (lv_at hl 2 rfl) ?_
      refine lv_aload_n hx hb dX4_bestByTrying_29 rfl (lv_at hl 0 rfl) ?_
      refine lv_iload_n hx hb dX4_bestByTrying_30 rfl (lv_at hl 1 rfl) ?_
      refine z_iald C0 hP hA.n0 hA.a_fn (zIx_nI (by omega) (by decide)) dX4_bestByTrying_31 ?_
      refine lv_isub hx hb dX4_bestByTrying_32 ?_
      refine lv_iload_n hx hb dX4_bestByTrying_33 rfl (lv_at hl 3 rfl) ?_
      refine lv_iconst (v := 1) hx hb dX4_bestByTrying_34 (by decide) ?_
      refine lv_iload_n hx hb dX4_bestByTrying_35 rfl (lv_at hl 1 rfl) ?_
      refine lv_ishl hx hb dX4_bestByTrying_36 ?_
      refine lv_ior hx hb dX4_bestByTrying_37 ?_
      refine lv_iload hx hb dX4_bestByTrying_38 (lv_at hl 4 rfl) ?_
      refine z_Si_eq (As := [.ref (ad tz), .int (nI 6), .int (left - (tl 5)), .int (zm ||| (1 <<< ((nI 5) &&& 31))), .int be]) (rest := []) C0 hP hS hl.1 (m_X4_bestByTrying_1 l _ hA) lk_X4_240 rfl rfl (Nat.le_of_ble_eq_true rfl) ⟨Nat.le_of_ble_eq_true rfl, Nat.le_of_ble_eq_true rfl⟩ rfl rfl ⟨Nat.zero_le _, Nat.zero_le _⟩ dX4_bestByTrying_40 (fun H locs hP hS => ?_)
      refine lv_istore (lv' := [(5, .int (btF tl 1 (left - tl 5) (zm ||| 1 <<< (nI 5 &&& 31)) be)), (0, .ref (ad tz)), (1, .int (nI 5)), (2, .int left), (3, .int zm), (4, .int be)]) hx hb dX4_bestByTrying_43 hl (by decide) rfl (fun ls hl => ?_)
      refine lv_aload_n hx hb dX4_bestByTrying_45 rfl (lv_at hl 1 rfl) ?_
      refine lv_iload_n hx hb dX4_bestByTrying_46 rfl (lv_at hl 2 rfl) ?_
      refine lv_iconst (v := 1) hx hb dX4_bestByTrying_47 (by decide) ?_
      refine lv_iadd hx hb dX4_bestByTrying_48 ?_
      refine z_topi (y := nI 6) rfl ?_
      refine lv_iload_n hx hb dX4_bestByTrying_49 rfl (lv_at hl 3 rfl) ?_
      refine lv_iload_n hx hb dX4_bestByTrying_50 rfl (lv_at hl 4 rfl) ?_
      refine lv_iload hx hb dX4_bestByTrying_51 (lv_at hl 0 rfl) ?_
      refine z_Si_eq (As := [.ref (ad tz), .int (nI 6), .int left, .int zm, .int (btF tl 1 (left - tl 5) (zm ||| 1 <<< (nI 5 &&& 31)) be)]) (rest := []) C0 hP hS hl.1 (m_X4_bestByTrying_1 l _ hA) lk_X4_240 rfl rfl (Nat.le_of_ble_eq_true rfl) ⟨Nat.le_of_ble_eq_true rfl, Nat.le_of_ble_eq_true rfl⟩ rfl rfl ⟨Nat.zero_le _, Nat.zero_le _⟩ dX4_bestByTrying_53 (fun H locs hP hS => ?_)
      exact z_iret C0 hP hS hr (⟨rfl, ((if_neg c_1).trans (if_neg c_12)).symm⟩) dX4_bestByTrying_56
  · refine lv_iload_n hx hb dX4_bestByTrying_4 rfl (lv_at hl 3 rfl) ?_
    refine lv_iload hx hb dX4_bestByTrying_5 (lv_at hl 4 rfl) ?_
    refine z_Si_eq (As := [.int zm, .int be]) (rest := []) C0 hP hS hl.1 (m_X4_better l _ ) lk_X4_312 rfl rfl (Nat.le_of_ble_eq_true rfl) ⟨Nat.le_of_ble_eq_true rfl, Nat.le_of_ble_eq_true rfl⟩ rfl rfl ⟨Nat.zero_le _, Nat.zero_le _⟩ dX4_bestByTrying_7 (fun H locs hP hS => ?_)
    exact z_iret C0 hP hS hr (⟨rfl, (by first | exact (if_pos c_1).symm | exact (if_pos (by simpa using c_1)).symm)⟩) dX4_bestByTrying_10
set_option maxHeartbeats 4000000 in
set_option maxRecDepth 100000 in
theorem m_X4_bestByTrying_3 (l : Launch) {D : va_G} {cy : Nat → ClassId} {K : Nat} {ad : Nat → Nat} {g : Nat → va_E} (sz : Nat) {tz : Nat} {tl : Nat → Int32} {left zm be : Int32} (hA : isA cy K ad g tz 7 tl) : Met l yX4_bestByTrying (zs yX4_bestByTrying cX4_bestByTrying 6 (some .int)) ({ frames := 6, cells := 0, slots := 0, locals := 195 } : Room) (va_Pc [.ref (ad tz), .int (nI 4), .int left, .int zm, .int be] (zIn D cy K ad g sz)) (va_Qi (fun r g1 => g1 = g ∧ r = btF tl 3 left zm be) (zOut D cy K ad sz) (zA K ad sz)) 0 0 (zA K ad sz) := by
  refine z_met (by decide) (Nat.le_of_ble_eq_true rfl) (fun p e s m below meth c ls hsz hl C0 hr hnm hP hS => ?_)
  subst hsz
  have hl : lv_has ls 6 [(0, .ref (ad tz)), (1, .int (nI 4)), (2, .int left), (3, .int zm), (4, .int be)] := hl
  have hx := C0.1; have hb := C0.2.1; have hown := C0.2.2.2.1; have hts := C0.2.2.2.2.1
  refine lv_iload_n hx hb dX4_bestByTrying_0 rfl (lv_at hl 2 rfl) ?_
  refine lv_if_ne (tgt := 11) hx hb dX4_bestByTrying_1 (by decide) (fun c_1 => ?_) (fun c_1 => ?_)
  · refine lv_iload_n hx hb dX4_bestByTrying_11 rfl (lv_at hl 2 rfl) ?_
    refine lv_if_lt (tgt := 21) hx hb dX4_bestByTrying_12 (by decide) (fun c_12 => ?_) (fun c_12 => ?_)
    · refine lv_iload hx hb dX4_bestByTrying_21 (lv_at hl 4 rfl) ?_
      exact z_iret C0 hP hS hr (⟨rfl, ((if_neg c_1).trans (if_pos c_12)).symm⟩) dX4_bestByTrying_23
    · refine lv_iload_n hx hb dX4_bestByTrying_15 rfl (lv_at hl 1 rfl) ?_
      refine lv_bipush (v := 7) hx hb dX4_bestByTrying_16 (by decide) ?_
      refine lv_icmp_lt (tgt := 24) hx hb dX4_bestByTrying_18 (by decide) (fun c_18 => ?_) (fun c_18 => absurd (by decide) c_18)
      refine lv_aload_n hx hb dX4_bestByTrying_24 rfl (lv_at hl 0 rfl) ?_
      refine lv_iload_n hx hb dX4_bestByTrying_25 rfl (lv_at hl 1 rfl) ?_
      refine lv_iconst (v := 1) hx hb dX4_bestByTrying_26 (by decide) ?_
      refine lv_iadd hx hb dX4_bestByTrying_27 ?_
      refine z_topi (y := nI 5) rfl ?_
      refine lv_iload_n hx hb dX4_bestByTrying_28 rfl (lv_at hl 2 rfl) ?_
      refine lv_aload_n hx hb dX4_bestByTrying_29 rfl (lv_at hl 0 rfl) ?_
      refine lv_iload_n hx hb dX4_bestByTrying_30 rfl (lv_at hl 1 rfl) ?_
      refine z_iald C0 hP hA.n0 hA.a_fn (zIx_nI (by omega) (by decide)) dX4_bestByTrying_31 ?_
      refine lv_isub hx hb dX4_bestByTrying_32 ?_
      refine lv_iload_n hx hb dX4_bestByTrying_33 rfl (lv_at hl 3 rfl) ?_
      refine lv_iconst (v := 1) hx hb dX4_bestByTrying_34 (by decide) ?_
      refine lv_iload_n hx hb dX4_bestByTrying_35 rfl (lv_at hl 1 rfl) ?_
      refine lv_ishl hx hb dX4_bestByTrying_36 ?_
      refine lv_ior hx hb dX4_bestByTrying_37 ?_
      refine lv_iload hx hb dX4_bestByTrying_38 (lv_at hl 4 rfl) ?_
      refine z_Si_eq (As := [.ref (ad tz), .int (nI 5), .int (left - (tl 4)), .int (zm ||| (1 <<< ((nI 4) &&& 31))), .int be]) (rest := []) C0 hP hS hl.1 (m_X4_bestByTrying_2 l _ hA) lk_X4_240 rfl rfl (Nat.le_of_ble_eq_true rfl) ⟨Nat.le_of_ble_eq_true rfl, Nat.le_of_ble_eq_true rfl⟩ rfl rfl ⟨Nat.zero_le _, Nat.zero_le _⟩ dX4_bestByTrying_40 (fun H locs hP hS => ?_)
      refine lv_istore (lv' := [(5, .int (btF tl 2 (left - tl 4) (zm ||| 1 <<< (nI 4 &&& 31)) be)), (0, .ref (ad tz)), (1, .int (nI 4)), (2, .int left), (3, .int zm), (4, .int be)]) hx hb dX4_bestByTrying_43 hl (by decide) rfl (fun ls hl => ?_)
      refine lv_aload_n hx hb dX4_bestByTrying_45 rfl (lv_at hl 1 rfl) ?_
      refine lv_iload_n hx hb dX4_bestByTrying_46 rfl (lv_at hl 2 rfl) ?_
      refine lv_iconst (v := 1) hx hb dX4_bestByTrying_47 (by decide) ?_
      refine lv_iadd hx hb dX4_bestByTrying_48 ?_
      refine z_topi (y := nI 5) rfl ?_
      refine lv_iload_n hx hb dX4_bestByTrying_49 rfl (lv_at hl 3 rfl) ?_
      refine lv_iload_n hx hb dX4_bestByTrying_50 rfl (lv_at hl 4 rfl) ?_
      refine lv_iload hx hb dX4_bestByTrying_51 (lv_at hl 0 rfl) ?_
      refine z_Si_eq (As := [.ref (ad tz), .int (nI 5), .int left, .int zm, .int (btF tl 2 (left - tl 4) (zm ||| 1 <<< (nI 4 &&& 31)) be)]) (rest := []) C0 hP hS hl.1 (m_X4_bestByTrying_2 l _ hA) lk_X4_240 rfl rfl (Nat.le_of_ble_eq_true rfl) ⟨Nat.le_of_ble_eq_true rfl, Nat.le_of_ble_eq_true rfl⟩ rfl rfl ⟨Nat.zero_le _, Nat.zero_le _⟩ dX4_bestByTrying_53 (fun H locs hP hS => ?_)
      exact z_iret C0 hP hS hr (⟨rfl, ((if_neg c_1).trans (if_neg c_12)).symm⟩) dX4_bestByTrying_56
  · refine lv_iload_n hx hb dX4_bestByTrying_4 rfl (lv_at hl 3 rfl) ?_
    refine lv_iload hx hb dX4_bestByTrying_5 (lv_at hl 4 rfl) ?_
    refine z_Si_eq (As := [.int zm, .int be]) (rest := []) C0 hP hS hl.1 (m_X4_better l _ ) lk_X4_312 rfl rfl (Nat.le_of_ble_eq_true rfl) ⟨Nat.le_of_ble_eq_true rfl, Nat.le_of_ble_eq_true rfl⟩ rfl rfl ⟨Nat.zero_le _, Nat.zero_le _⟩ dX4_bestByTrying_7 (fun H locs hP hS => ?_)
    exact z_iret C0 hP hS hr (⟨rfl, (by first | exact (if_pos c_1).symm | exact (if_pos (by simpa using c_1)).symm)⟩) dX4_bestByTrying_10
set_option maxHeartbeats 4000000 in
set_option maxRecDepth 100000 in
theorem m_X4_bestByTrying_4 (l : Launch) {D : va_G} {cy : Nat → ClassId} {K : Nat} {ad : Nat → Nat} {g : Nat → va_E} (sz : Nat) {tz : Nat} {tl : Nat → Int32} {left zm be : Int32} (hA : isA cy K ad g tz 7 tl) : Met l yX4_bestByTrying (zs yX4_bestByTrying cX4_bestByTrying 6 (some .int)) ({ frames := 7, cells := 0, slots := 0, locals := 220 } : Room) (va_Pc [.ref (ad tz), .int (nI 3), .int left, .int zm, .int be] (zIn D cy K ad g sz)) (va_Qi (fun r g1 => g1 = g ∧ r = btF tl 4 left zm be) (zOut D cy K ad sz) (zA K ad sz)) 0 0 (zA K ad sz) := by
  refine z_met (by decide) (Nat.le_of_ble_eq_true rfl) (fun p e s m below meth c ls hsz hl C0 hr hnm hP hS => ?_)
  subst hsz
  have hl : lv_has ls 6 [(0, .ref (ad tz)), (1, .int (nI 3)), (2, .int left), (3, .int zm), (4, .int be)] := hl
  have hx := C0.1; have hb := C0.2.1; have hown := C0.2.2.2.1; have hts := C0.2.2.2.2.1
  refine lv_iload_n hx hb dX4_bestByTrying_0 rfl (lv_at hl 2 rfl) ?_
  refine lv_if_ne (tgt := 11) hx hb dX4_bestByTrying_1 (by decide) (fun c_1 => ?_) (fun c_1 => ?_)
  · refine lv_iload_n hx hb dX4_bestByTrying_11 rfl (lv_at hl 2 rfl) ?_
    refine lv_if_lt (tgt := 21) hx hb dX4_bestByTrying_12 (by decide) (fun c_12 => ?_) (fun c_12 => ?_)
    · refine lv_iload hx hb dX4_bestByTrying_21 (lv_at hl 4 rfl) ?_
      exact z_iret C0 hP hS hr (⟨rfl, ((if_neg c_1).trans (if_pos c_12)).symm⟩) dX4_bestByTrying_23
    · refine lv_iload_n hx hb dX4_bestByTrying_15 rfl (lv_at hl 1 rfl) ?_
      refine lv_bipush (v := 7) hx hb dX4_bestByTrying_16 (by decide) ?_
      refine lv_icmp_lt (tgt := 24) hx hb dX4_bestByTrying_18 (by decide) (fun c_18 => ?_) (fun c_18 => absurd (by decide) c_18)
      refine lv_aload_n hx hb dX4_bestByTrying_24 rfl (lv_at hl 0 rfl) ?_
      refine lv_iload_n hx hb dX4_bestByTrying_25 rfl (lv_at hl 1 rfl) ?_
      refine lv_iconst (v := 1) hx hb dX4_bestByTrying_26 (by decide) ?_
      refine lv_iadd hx hb dX4_bestByTrying_27 ?_
      refine z_topi (y := nI 4) rfl ?_
      refine lv_iload_n hx hb dX4_bestByTrying_28 rfl (lv_at hl 2 rfl) ?_
      refine lv_aload_n hx hb dX4_bestByTrying_29 rfl (lv_at hl 0 rfl) ?_
      refine lv_iload_n hx hb dX4_bestByTrying_30 rfl (lv_at hl 1 rfl) ?_
      refine z_iald C0 hP hA.n0 hA.a_fn (zIx_nI (by omega) (by decide)) dX4_bestByTrying_31 ?_
      refine lv_isub hx hb dX4_bestByTrying_32 ?_
      refine lv_iload_n hx hb dX4_bestByTrying_33 rfl (lv_at hl 3 rfl) ?_
      refine lv_iconst (v := 1) hx hb dX4_bestByTrying_34 (by decide) ?_
      refine lv_iload_n hx hb dX4_bestByTrying_35 rfl (lv_at hl 1 rfl) ?_
      refine lv_ishl hx hb dX4_bestByTrying_36 ?_
      refine lv_ior hx hb dX4_bestByTrying_37 ?_
      refine lv_iload hx hb dX4_bestByTrying_38 (lv_at hl 4 rfl) ?_
      refine z_Si_eq (As := [.ref (ad tz), .int (nI 4), .int (left - (tl 3)), .int (zm ||| (1 <<< ((nI 3) &&& 31))), .int be]) (rest := []) C0 hP hS hl.1 (m_X4_bestByTrying_3 l _ hA) lk_X4_240 rfl rfl (Nat.le_of_ble_eq_true rfl) ⟨Nat.le_of_ble_eq_true rfl, Nat.le_of_ble_eq_true rfl⟩ rfl rfl ⟨Nat.zero_le _, Nat.zero_le _⟩ dX4_bestByTrying_40 (fun H locs hP hS => ?_)
      refine lv_istore (lv' := [(5, .int (btF tl 3 (left - tl 3) (zm ||| 1 <<< (nI 3 &&& 31)) be)), (0, .ref (ad tz)), (1, .int (nI 3)), (2, .int left), (3, .int zm), (4, .int be)]) hx hb dX4_bestByTrying_43 hl (by decide) rfl (fun ls hl => ?_)
      refine lv_aload_n hx hb dX4_bestByTrying_45 rfl (lv_at hl 1 rfl) ?_
      refine lv_iload_n hx hb dX4_bestByTrying_46 rfl (lv_at hl 2 rfl) ?_
      refine lv_iconst (v := 1) hx hb dX4_bestByTrying_47 (by decide) ?_
      refine lv_iadd hx hb dX4_bestByTrying_48 ?_
      refine z_topi (y := nI 4) rfl ?_
      refine lv_iload_n hx hb dX4_bestByTrying_49 rfl (lv_at hl 3 rfl) ?_
      refine lv_iload_n hx hb dX4_bestByTrying_50 rfl (lv_at hl 4 rfl) ?_
      refine lv_iload hx hb dX4_bestByTrying_51 (lv_at hl 0 rfl) ?_
      refine z_Si_eq (As := [.ref (ad tz), .int (nI 4), .int left, .int zm, .int (btF tl 3 (left - tl 3) (zm ||| 1 <<< (nI 3 &&& 31)) be)]) (rest := []) C0 hP hS hl.1 (m_X4_bestByTrying_3 l _ hA) lk_X4_240 rfl rfl (Nat.le_of_ble_eq_true rfl) ⟨Nat.le_of_ble_eq_true rfl, Nat.le_of_ble_eq_true rfl⟩ rfl rfl ⟨Nat.zero_le _, Nat.zero_le _⟩ dX4_bestByTrying_53 (fun H locs hP hS => ?_)
      exact z_iret C0 hP hS hr (⟨rfl, ((if_neg c_1).trans (if_neg c_12)).symm⟩) dX4_bestByTrying_56
  · refine lv_iload_n hx hb dX4_bestByTrying_4 rfl (lv_at hl 3 rfl) ?_
    refine lv_iload hx hb dX4_bestByTrying_5 (lv_at hl 4 rfl) ?_
    refine z_Si_eq (As := [.int zm, .int be]) (rest := []) C0 hP hS hl.1 (m_X4_better l _ ) lk_X4_312 rfl rfl (Nat.le_of_ble_eq_true rfl) ⟨Nat.le_of_ble_eq_true rfl, Nat.le_of_ble_eq_true rfl⟩ rfl rfl ⟨Nat.zero_le _, Nat.zero_le _⟩ dX4_bestByTrying_7 (fun H locs hP hS => ?_)
    exact z_iret C0 hP hS hr (⟨rfl, (by first | exact (if_pos c_1).symm | exact (if_pos (by simpa using c_1)).symm)⟩) dX4_bestByTrying_10
set_option maxHeartbeats 4000000 in
set_option maxRecDepth 100000 in
theorem m_X4_bestByTrying_5 (l : Launch) {D : va_G} {cy : Nat → ClassId} {K : Nat} {ad : Nat → Nat} {g : Nat → va_E} (sz : Nat) {tz : Nat} {tl : Nat → Int32} {left zm be : Int32} (hA : isA cy K ad g tz 7 tl) : Met l yX4_bestByTrying (zs yX4_bestByTrying cX4_bestByTrying 6 (some .int)) ({ frames := 8, cells := 0, slots := 0, locals := 245 } : Room) (va_Pc [.ref (ad tz), .int (nI 2), .int left, .int zm, .int be] (zIn D cy K ad g sz)) (va_Qi (fun r g1 => g1 = g ∧ r = btF tl 5 left zm be) (zOut D cy K ad sz) (zA K ad sz)) 0 0 (zA K ad sz) := by
  refine z_met (by decide) (Nat.le_of_ble_eq_true rfl) (fun p e s m below meth c ls hsz hl C0 hr hnm hP hS => ?_)
  subst hsz
  have hl : lv_has ls 6 [(0, .ref (ad tz)), (1, .int (nI 2)), (2, .int left), (3, .int zm), (4, .int be)] := hl
  have hx := C0.1; have hb := C0.2.1; have hown := C0.2.2.2.1; have hts := C0.2.2.2.2.1
  refine lv_iload_n hx hb dX4_bestByTrying_0 rfl (lv_at hl 2 rfl) ?_
  refine lv_if_ne (tgt := 11) hx hb dX4_bestByTrying_1 (by decide) (fun c_1 => ?_) (fun c_1 => ?_)
  · refine lv_iload_n hx hb dX4_bestByTrying_11 rfl (lv_at hl 2 rfl) ?_
    refine lv_if_lt (tgt := 21) hx hb dX4_bestByTrying_12 (by decide) (fun c_12 => ?_) (fun c_12 => ?_)
    · refine lv_iload hx hb dX4_bestByTrying_21 (lv_at hl 4 rfl) ?_
      exact z_iret C0 hP hS hr (⟨rfl, ((if_neg c_1).trans (if_pos c_12)).symm⟩) dX4_bestByTrying_23
    · refine lv_iload_n hx hb dX4_bestByTrying_15 rfl (lv_at hl 1 rfl) ?_
      refine lv_bipush (v := 7) hx hb dX4_bestByTrying_16 (by decide) ?_
      refine lv_icmp_lt (tgt := 24) hx hb dX4_bestByTrying_18 (by decide) (fun c_18 => ?_) (fun c_18 => absurd (by decide) c_18)
      refine lv_aload_n hx hb dX4_bestByTrying_24 rfl (lv_at hl 0 rfl) ?_
      refine lv_iload_n hx hb dX4_bestByTrying_25 rfl (lv_at hl 1 rfl) ?_
      refine lv_iconst (v := 1) hx hb dX4_bestByTrying_26 (by decide) ?_
      refine lv_iadd hx hb dX4_bestByTrying_27 ?_
      refine z_topi (y := nI 3) rfl ?_
      refine lv_iload_n hx hb dX4_bestByTrying_28 rfl (lv_at hl 2 rfl) ?_
      refine lv_aload_n hx hb dX4_bestByTrying_29 rfl (lv_at hl 0 rfl) ?_
      refine lv_iload_n hx hb dX4_bestByTrying_30 rfl (lv_at hl 1 rfl) ?_
      refine z_iald C0 hP hA.n0 hA.a_fn (zIx_nI (by omega) (by decide)) dX4_bestByTrying_31 ?_
      refine lv_isub hx hb dX4_bestByTrying_32 ?_
      refine lv_iload_n hx hb dX4_bestByTrying_33 rfl (lv_at hl 3 rfl) ?_
      refine lv_iconst (v := 1) hx hb dX4_bestByTrying_34 (by decide) ?_
      refine lv_iload_n hx hb dX4_bestByTrying_35 rfl (lv_at hl 1 rfl) ?_
      refine lv_ishl hx hb dX4_bestByTrying_36 ?_
      refine lv_ior hx hb dX4_bestByTrying_37 ?_
      refine lv_iload hx hb dX4_bestByTrying_38 (lv_at hl 4 rfl) ?_
      refine z_Si_eq (As := [.ref (ad tz), .int (nI 3), .int (left - (tl 2)), .int (zm ||| (1 <<< ((nI 2) &&& 31))), .int be]) (rest := []) C0 hP hS hl.1 (m_X4_bestByTrying_4 l _ hA) lk_X4_240 rfl rfl (Nat.le_of_ble_eq_true rfl) ⟨Nat.le_of_ble_eq_true rfl, Nat.le_of_ble_eq_true rfl⟩ rfl rfl ⟨Nat.zero_le _, Nat.zero_le _⟩ dX4_bestByTrying_40 (fun H locs hP hS => ?_)
      refine lv_istore (lv' := [(5, .int (btF tl 4 (left - tl 2) (zm ||| 1 <<< (nI 2 &&& 31)) be)), (0, .ref (ad tz)), (1, .int (nI 2)), (2, .int left), (3, .int zm), (4, .int be)]) hx hb dX4_bestByTrying_43 hl (by decide) rfl (fun ls hl => ?_)
      refine lv_aload_n hx hb dX4_bestByTrying_45 rfl (lv_at hl 1 rfl) ?_
      refine lv_iload_n hx hb dX4_bestByTrying_46 rfl (lv_at hl 2 rfl) ?_
      refine lv_iconst (v := 1) hx hb dX4_bestByTrying_47 (by decide) ?_
      refine lv_iadd hx hb dX4_bestByTrying_48 ?_
      refine z_topi (y := nI 3) rfl ?_
      refine lv_iload_n hx hb dX4_bestByTrying_49 rfl (lv_at hl 3 rfl) ?_
      refine lv_iload_n hx hb dX4_bestByTrying_50 rfl (lv_at hl 4 rfl) ?_
      refine lv_iload hx hb dX4_bestByTrying_51 (lv_at hl 0 rfl) ?_
      refine z_Si_eq (As := [.ref (ad tz), .int (nI 3), .int left, .int zm, .int (btF tl 4 (left - tl 2) (zm ||| 1 <<< (nI 2 &&& 31)) be)]) (rest := []) C0 hP hS hl.1 (m_X4_bestByTrying_4 l _ hA) lk_X4_240 rfl rfl (Nat.le_of_ble_eq_true rfl) ⟨Nat.le_of_ble_eq_true rfl, Nat.le_of_ble_eq_true rfl⟩ rfl rfl ⟨Nat.zero_le _, Nat.zero_le _⟩ dX4_bestByTrying_53 (fun H locs hP hS => ?_)
      exact z_iret C0 hP hS hr (⟨rfl, ((if_neg c_1).trans (if_neg c_12)).symm⟩) dX4_bestByTrying_56
  · refine lv_iload_n hx hb dX4_bestByTrying_4 rfl (lv_at hl 3 rfl) ?_
    refine lv_iload hx hb dX4_bestByTrying_5 (lv_at hl 4 rfl) ?_
    refine z_Si_eq (As := [.int zm, .int be]) (rest := []) C0 hP hS hl.1 (m_X4_better l _ ) lk_X4_312 rfl rfl (Nat.le_of_ble_eq_true rfl) ⟨Nat.le_of_ble_eq_true rfl, Nat.le_of_ble_eq_true rfl⟩ rfl rfl ⟨Nat.zero_le _, Nat.zero_le _⟩ dX4_bestByTrying_7 (fun H locs hP hS => ?_)
    exact z_iret C0 hP hS hr (⟨rfl, (by first | exact (if_pos c_1).symm | exact (if_pos (by simpa using c_1)).symm)⟩) dX4_bestByTrying_10
set_option maxHeartbeats 4000000 in
set_option maxRecDepth 100000 in
theorem m_X4_bestByTrying_6 (l : Launch) {D : va_G} {cy : Nat → ClassId} {K : Nat} {ad : Nat → Nat} {g : Nat → va_E} (sz : Nat) {tz : Nat} {tl : Nat → Int32} {left zm be : Int32} (hA : isA cy K ad g tz 7 tl) : Met l yX4_bestByTrying (zs yX4_bestByTrying cX4_bestByTrying 6 (some .int)) ({ frames := 9, cells := 0, slots := 0, locals := 270 } : Room) (va_Pc [.ref (ad tz), .int (nI 1), .int left, .int zm, .int be] (zIn D cy K ad g sz)) (va_Qi (fun r g1 => g1 = g ∧ r = btF tl 6 left zm be) (zOut D cy K ad sz) (zA K ad sz)) 0 0 (zA K ad sz) := by
  refine z_met (by decide) (Nat.le_of_ble_eq_true rfl) (fun p e s m below meth c ls hsz hl C0 hr hnm hP hS => ?_)
  subst hsz
  have hl : lv_has ls 6 [(0, .ref (ad tz)), (1, .int (nI 1)), (2, .int left), (3, .int zm), (4, .int be)] := hl
  have hx := C0.1; have hb := C0.2.1; have hown := C0.2.2.2.1; have hts := C0.2.2.2.2.1
  refine lv_iload_n hx hb dX4_bestByTrying_0 rfl (lv_at hl 2 rfl) ?_
  refine lv_if_ne (tgt := 11) hx hb dX4_bestByTrying_1 (by decide) (fun c_1 => ?_) (fun c_1 => ?_)
  · refine lv_iload_n hx hb dX4_bestByTrying_11 rfl (lv_at hl 2 rfl) ?_
    refine lv_if_lt (tgt := 21) hx hb dX4_bestByTrying_12 (by decide) (fun c_12 => ?_) (fun c_12 => ?_)
    · refine lv_iload hx hb dX4_bestByTrying_21 (lv_at hl 4 rfl) ?_
      exact z_iret C0 hP hS hr (⟨rfl, ((if_neg c_1).trans (if_pos c_12)).symm⟩) dX4_bestByTrying_23
    · refine lv_iload_n hx hb dX4_bestByTrying_15 rfl (lv_at hl 1 rfl) ?_
      refine lv_bipush (v := 7) hx hb dX4_bestByTrying_16 (by decide) ?_
      refine lv_icmp_lt (tgt := 24) hx hb dX4_bestByTrying_18 (by decide) (fun c_18 => ?_) (fun c_18 => absurd (by decide) c_18)
      refine lv_aload_n hx hb dX4_bestByTrying_24 rfl (lv_at hl 0 rfl) ?_
      refine lv_iload_n hx hb dX4_bestByTrying_25 rfl (lv_at hl 1 rfl) ?_
      refine lv_iconst (v := 1) hx hb dX4_bestByTrying_26 (by decide) ?_
      refine lv_iadd hx hb dX4_bestByTrying_27 ?_
      refine z_topi (y := nI 2) rfl ?_
      refine lv_iload_n hx hb dX4_bestByTrying_28 rfl (lv_at hl 2 rfl) ?_
      refine lv_aload_n hx hb dX4_bestByTrying_29 rfl (lv_at hl 0 rfl) ?_
      refine lv_iload_n hx hb dX4_bestByTrying_30 rfl (lv_at hl 1 rfl) ?_
      refine z_iald C0 hP hA.n0 hA.a_fn (zIx_nI (by omega) (by decide)) dX4_bestByTrying_31 ?_
      refine lv_isub hx hb dX4_bestByTrying_32 ?_
      refine lv_iload_n hx hb dX4_bestByTrying_33 rfl (lv_at hl 3 rfl) ?_
      refine lv_iconst (v := 1) hx hb dX4_bestByTrying_34 (by decide) ?_
      refine lv_iload_n hx hb dX4_bestByTrying_35 rfl (lv_at hl 1 rfl) ?_
      refine lv_ishl hx hb dX4_bestByTrying_36 ?_
      refine lv_ior hx hb dX4_bestByTrying_37 ?_
      refine lv_iload hx hb dX4_bestByTrying_38 (lv_at hl 4 rfl) ?_
      refine z_Si_eq (As := [.ref (ad tz), .int (nI 2), .int (left - (tl 1)), .int (zm ||| (1 <<< ((nI 1) &&& 31))), .int be]) (rest := []) C0 hP hS hl.1 (m_X4_bestByTrying_5 l _ hA) lk_X4_240 rfl rfl (Nat.le_of_ble_eq_true rfl) ⟨Nat.le_of_ble_eq_true rfl, Nat.le_of_ble_eq_true rfl⟩ rfl rfl ⟨Nat.zero_le _, Nat.zero_le _⟩ dX4_bestByTrying_40 (fun H locs hP hS => ?_)
      refine lv_istore (lv' := [(5, .int (btF tl 5 (left - tl 1) (zm ||| 1 <<< (nI 1 &&& 31)) be)), (0, .ref (ad tz)), (1, .int (nI 1)), (2, .int left), (3, .int zm), (4, .int be)]) hx hb dX4_bestByTrying_43 hl (by decide) rfl (fun ls hl => ?_)
      refine lv_aload_n hx hb dX4_bestByTrying_45 rfl (lv_at hl 1 rfl) ?_
      refine lv_iload_n hx hb dX4_bestByTrying_46 rfl (lv_at hl 2 rfl) ?_
      refine lv_iconst (v := 1) hx hb dX4_bestByTrying_47 (by decide) ?_
      refine lv_iadd hx hb dX4_bestByTrying_48 ?_
      refine z_topi (y := nI 2) rfl ?_
      refine lv_iload_n hx hb dX4_bestByTrying_49 rfl (lv_at hl 3 rfl) ?_
      refine lv_iload_n hx hb dX4_bestByTrying_50 rfl (lv_at hl 4 rfl) ?_
      refine lv_iload hx hb dX4_bestByTrying_51 (lv_at hl 0 rfl) ?_
      refine z_Si_eq (As := [.ref (ad tz), .int (nI 2), .int left, .int zm, .int (btF tl 5 (left - tl 1) (zm ||| 1 <<< (nI 1 &&& 31)) be)]) (rest := []) C0 hP hS hl.1 (m_X4_bestByTrying_5 l _ hA) lk_X4_240 rfl rfl (Nat.le_of_ble_eq_true rfl) ⟨Nat.le_of_ble_eq_true rfl, Nat.le_of_ble_eq_true rfl⟩ rfl rfl ⟨Nat.zero_le _, Nat.zero_le _⟩ dX4_bestByTrying_53 (fun H locs hP hS => ?_)
      exact z_iret C0 hP hS hr (⟨rfl, ((if_neg c_1).trans (if_neg c_12)).symm⟩) dX4_bestByTrying_56
  · refine lv_iload_n hx hb dX4_bestByTrying_4 rfl (lv_at hl 3 rfl) ?_
    refine lv_iload hx hb dX4_bestByTrying_5 (lv_at hl 4 rfl) ?_
    refine z_Si_eq (As := [.int zm, .int be]) (rest := []) C0 hP hS hl.1 (m_X4_better l _ ) lk_X4_312 rfl rfl (Nat.le_of_ble_eq_true rfl) ⟨Nat.le_of_ble_eq_true rfl, Nat.le_of_ble_eq_true rfl⟩ rfl rfl ⟨Nat.zero_le _, Nat.zero_le _⟩ dX4_bestByTrying_7 (fun H locs hP hS => ?_)
    exact z_iret C0 hP hS hr (⟨rfl, (by first | exact (if_pos c_1).symm | exact (if_pos (by simpa using c_1)).symm)⟩) dX4_bestByTrying_10
set_option maxHeartbeats 4000000 in
set_option maxRecDepth 100000 in
theorem m_X4_bestByTrying_7 (l : Launch) {D : va_G} {cy : Nat → ClassId} {K : Nat} {ad : Nat → Nat} {g : Nat → va_E} (sz : Nat) {tz : Nat} {tl : Nat → Int32} {left zm be : Int32} (hA : isA cy K ad g tz 7 tl) : Met l yX4_bestByTrying (zs yX4_bestByTrying cX4_bestByTrying 6 (some .int)) ({ frames := 10, cells := 0, slots := 0, locals := 295 } : Room) (va_Pc [.ref (ad tz), .int (nI 0), .int left, .int zm, .int be] (zIn D cy K ad g sz)) (va_Qi (fun r g1 => g1 = g ∧ r = btF tl 7 left zm be) (zOut D cy K ad sz) (zA K ad sz)) 0 0 (zA K ad sz) := by
  refine z_met (by decide) (Nat.le_of_ble_eq_true rfl) (fun p e s m below meth c ls hsz hl C0 hr hnm hP hS => ?_)
  subst hsz
  have hl : lv_has ls 6 [(0, .ref (ad tz)), (1, .int (nI 0)), (2, .int left), (3, .int zm), (4, .int be)] := hl
  have hx := C0.1; have hb := C0.2.1; have hown := C0.2.2.2.1; have hts := C0.2.2.2.2.1
  refine lv_iload_n hx hb dX4_bestByTrying_0 rfl (lv_at hl 2 rfl) ?_
  refine lv_if_ne (tgt := 11) hx hb dX4_bestByTrying_1 (by decide) (fun c_1 => ?_) (fun c_1 => ?_)
  · refine lv_iload_n hx hb dX4_bestByTrying_11 rfl (lv_at hl 2 rfl) ?_
    refine lv_if_lt (tgt := 21) hx hb dX4_bestByTrying_12 (by decide) (fun c_12 => ?_) (fun c_12 => ?_)
    · refine lv_iload hx hb dX4_bestByTrying_21 (lv_at hl 4 rfl) ?_
      exact z_iret C0 hP hS hr (⟨rfl, ((if_neg c_1).trans (if_pos c_12)).symm⟩) dX4_bestByTrying_23
    · refine lv_iload_n hx hb dX4_bestByTrying_15 rfl (lv_at hl 1 rfl) ?_
      refine lv_bipush (v := 7) hx hb dX4_bestByTrying_16 (by decide) ?_
      refine lv_icmp_lt (tgt := 24) hx hb dX4_bestByTrying_18 (by decide) (fun c_18 => ?_) (fun c_18 => absurd (by decide) c_18)
      refine lv_aload_n hx hb dX4_bestByTrying_24 rfl (lv_at hl 0 rfl) ?_
      refine lv_iload_n hx hb dX4_bestByTrying_25 rfl (lv_at hl 1 rfl) ?_
      refine lv_iconst (v := 1) hx hb dX4_bestByTrying_26 (by decide) ?_
      refine lv_iadd hx hb dX4_bestByTrying_27 ?_
      refine z_topi (y := nI 1) rfl ?_
      refine lv_iload_n hx hb dX4_bestByTrying_28 rfl (lv_at hl 2 rfl) ?_
      refine lv_aload_n hx hb dX4_bestByTrying_29 rfl (lv_at hl 0 rfl) ?_
      refine lv_iload_n hx hb dX4_bestByTrying_30 rfl (lv_at hl 1 rfl) ?_
      refine z_iald C0 hP hA.n0 hA.a_fn (zIx_nI (by omega) (by decide)) dX4_bestByTrying_31 ?_
      refine lv_isub hx hb dX4_bestByTrying_32 ?_
      refine lv_iload_n hx hb dX4_bestByTrying_33 rfl (lv_at hl 3 rfl) ?_
      refine lv_iconst (v := 1) hx hb dX4_bestByTrying_34 (by decide) ?_
      refine lv_iload_n hx hb dX4_bestByTrying_35 rfl (lv_at hl 1 rfl) ?_
      refine lv_ishl hx hb dX4_bestByTrying_36 ?_
      refine lv_ior hx hb dX4_bestByTrying_37 ?_
      refine lv_iload hx hb dX4_bestByTrying_38 (lv_at hl 4 rfl) ?_
      refine z_Si_eq (As := [.ref (ad tz), .int (nI 1), .int (left - (tl 0)), .int (zm ||| (1 <<< ((nI 0) &&& 31))), .int be]) (rest := []) C0 hP hS hl.1 (m_X4_bestByTrying_6 l _ hA) lk_X4_240 rfl rfl (Nat.le_of_ble_eq_true rfl) ⟨Nat.le_of_ble_eq_true rfl, Nat.le_of_ble_eq_true rfl⟩ rfl rfl ⟨Nat.zero_le _, Nat.zero_le _⟩ dX4_bestByTrying_40 (fun H locs hP hS => ?_)
      refine lv_istore (lv' := [(5, .int (btF tl 6 (left - tl 0) (zm ||| 1 <<< (nI 0 &&& 31)) be)), (0, .ref (ad tz)), (1, .int (nI 0)), (2, .int left), (3, .int zm), (4, .int be)]) hx hb dX4_bestByTrying_43 hl (by decide) rfl (fun ls hl => ?_)
      refine lv_aload_n hx hb dX4_bestByTrying_45 rfl (lv_at hl 1 rfl) ?_
      refine lv_iload_n hx hb dX4_bestByTrying_46 rfl (lv_at hl 2 rfl) ?_
      refine lv_iconst (v := 1) hx hb dX4_bestByTrying_47 (by decide) ?_
      refine lv_iadd hx hb dX4_bestByTrying_48 ?_
      refine z_topi (y := nI 1) rfl ?_
      refine lv_iload_n hx hb dX4_bestByTrying_49 rfl (lv_at hl 3 rfl) ?_
      refine lv_iload_n hx hb dX4_bestByTrying_50 rfl (lv_at hl 4 rfl) ?_
      refine lv_iload hx hb dX4_bestByTrying_51 (lv_at hl 0 rfl) ?_
      refine z_Si_eq (As := [.ref (ad tz), .int (nI 1), .int left, .int zm, .int (btF tl 6 (left - tl 0) (zm ||| 1 <<< (nI 0 &&& 31)) be)]) (rest := []) C0 hP hS hl.1 (m_X4_bestByTrying_6 l _ hA) lk_X4_240 rfl rfl (Nat.le_of_ble_eq_true rfl) ⟨Nat.le_of_ble_eq_true rfl, Nat.le_of_ble_eq_true rfl⟩ rfl rfl ⟨Nat.zero_le _, Nat.zero_le _⟩ dX4_bestByTrying_53 (fun H locs hP hS => ?_)
      exact z_iret C0 hP hS hr (⟨rfl, ((if_neg c_1).trans (if_neg c_12)).symm⟩) dX4_bestByTrying_56
  · refine lv_iload_n hx hb dX4_bestByTrying_4 rfl (lv_at hl 3 rfl) ?_
    refine lv_iload hx hb dX4_bestByTrying_5 (lv_at hl 4 rfl) ?_
    refine z_Si_eq (As := [.int zm, .int be]) (rest := []) C0 hP hS hl.1 (m_X4_better l _ ) lk_X4_312 rfl rfl (Nat.le_of_ble_eq_true rfl) ⟨Nat.le_of_ble_eq_true rfl, Nat.le_of_ble_eq_true rfl⟩ rfl rfl ⟨Nat.zero_le _, Nat.zero_le _⟩ dX4_bestByTrying_7 (fun H locs hP hS => ?_)
    exact z_iret C0 hP hS hr (⟨rfl, (by first | exact (if_pos c_1).symm | exact (if_pos (by simpa using c_1)).symm)⟩) dX4_bestByTrying_10
set_option maxHeartbeats 4000000 in
set_option maxRecDepth 100000 in
theorem m_X4_cordsFor (l : Launch) {D : va_G} {cy : Nat → ClassId} {K : Nat} {ad : Nat → Nat} {g : Nat → va_E} (sz : Nat) {st : Nat → Int32} {sv : Nat → Nat → Int32} {nx sz2 : Nat} {ns : Nat → Option Nat} {ss : Nat → Nat → Int32} {bu : Nat → Int32} {ln : Nat} {sum : Int32} {wz : Nat} (hTT : isT cy K ad g st sv nx sz2 ns ss bu ln) (hs1 : ¬ sum < 1) (hs2 : sum ≤ 9999999) (hw : wz < 2) : Met l yX4_cordsFor (zs yX4_cordsFor cX4_cordsFor 3 (some .int)) ({ frames := 11, cells := 0, slots := 0, locals := 320 } : Room) (va_Pc [.ref (ad 0), .int sum, .int (nI wz)] (zIn D cy K ad g sz)) (va_Qi (fun r g1 => r = forF (cTold st) sum wz ∧ isT cy K ad g1 st sv nx sz2 ns ss bu ln ∧ zFr zCl g g1) (zOut D cy K ad sz) (zA K ad sz)) 0 0 (zA K ad sz) := by
  refine z_met (by decide) (Nat.le_of_ble_eq_true rfl) (fun p e s m below meth c ls hsz hl C0 hr hnm hP hS => ?_)
  subst hsz
  have hl : lv_has ls 3 [(0, .ref (ad 0)), (1, .int sum), (2, .int (nI wz))] := hl
  have hx := C0.1; have hb := C0.2.1; have hown := C0.2.2.2.1; have hts := C0.2.2.2.2.1
  have hFr : zFr (zCl) g g := zFr.rf
  obtain ⟨sn, tl, rs, x, hX, hH, hHi, hRs, hTr, hSn⟩ := id hTT
  have hR : isR cy K ad g 215 rs.1 rs.2.1 rs.2.2.1 rs.2.2.2.1 rs.2.2.2.2 := hRs
  refine lv_iload_n hx hb dX4_cordsFor_0 rfl (lv_at hl 1 rfl) ?_
  refine lv_iconst (v := 1) hx hb dX4_cordsFor_1 (by decide) ?_
  refine lv_icmp_lt (tgt := 11) hx hb dX4_cordsFor_2 (by decide) (fun c_2 => absurd c_2 hs1) (fun c_2 => ?_)
  refine lv_iload_n hx hb dX4_cordsFor_5 rfl (lv_at hl 1 rfl) ?_
  refine lv_ldc hx hb hown (hts _ q559) dX4_cordsFor_6 ?_
  refine lv_icmp_le (tgt := 21) hx hb dX4_cordsFor_8 (by decide) (fun c_8 => ?_) (fun c_8 => absurd hs2 c_8)
  refine lv_iload_n hx hb dX4_cordsFor_21 rfl (lv_at hl 2 rfl) ?_
  refine lv_if_eq (tgt := 40) hx hb dX4_cordsFor_22 (by decide) (fun c_22 => ?_) (fun c_22 => ?_)
  · refine lv_aload_n hx hb dX4_cordsFor_40 rfl (lv_at hl 0 rfl) ?_
    refine z_get C0 hP hX.n0 hX.o fd_X4_10 rfl dX4_cordsFor_41 ?_
    refine lv_aload_n hx hb dX4_cordsFor_44 rfl (lv_at hl 0 rfl) ?_
    refine z_get C0 hP hX.n0 hX.o fd_X4_49 rfl dX4_cordsFor_45 ?_
    have hB : isA cy K ad g 220 7 tl := isA.of hX.n220 hX.a_tl
    have hX0 := hX
    obtain ⟨fs_48, hfs_48⟩ := hH.rc
    refine z_Vv_mo (As := [.ref (ad 220)]) (rest := []) C0 hP hS hl.1 (m_X1_tellEach l _ hH hB (by omega)) lk_X4_232 hH.n0 hfs_48 rfl rfl (Nat.le_of_ble_eq_true rfl) ⟨Nat.le_of_ble_eq_true rfl, Nat.le_of_ble_eq_true rfl⟩ rfl rfl ⟨Nat.zero_le _, Nat.zero_le _⟩ dX4_cordsFor_48 (fun g_1 H locs hP hS hp => ?_)
    obtain ⟨hB, hF1⟩ := hp
    have hH := hH.kept hF1 (by intro z9 h8 h9; first | (dsimp only [zOne, zRg, zCl]; omega) | (dsimp only; omega) | omega)
    have hHi := hHi.kept hF1 (by intro z9 h8 h9; first | (dsimp only [zOne, zRg, zCl]; omega) | (dsimp only; omega) | omega)
    have hR := hR.kept hF1 (by first | (dsimp only [zOne, zRg, zCl]; omega) | (dsimp only; omega) | omega)
    have hTr := hTr.kept hF1 (by intro z9 h8 h9; first | (dsimp only [zOne, zRg, zCl]; omega) | (dsimp only; omega) | omega)
    have hSn := hSn.kept hF1 (by intro z9 h8; first | (dsimp only [zOne, zRg, zCl]; omega) | (dsimp only; omega) | omega)
    have hFr := hFr.tr (hF1.mono (by intro x9 hx9; first | (dsimp only [zOne, zRg, zCl] at hx9 ⊢; omega) | (dsimp only at hx9 ⊢; omega) | omega))
    have hX := isX_tl hX0 hF1 hB
    refine lv_iload_n hx hb dX4_cordsFor_51 rfl (lv_at hl 2 rfl) ?_
    refine lv_if_ne (tgt := 66) hx hb dX4_cordsFor_52 (by decide) (fun c_52 => ?_) (fun c_52 => ?_)
    · refine lv_aload_n hx hb dX4_cordsFor_66 rfl (lv_at hl 0 rfl) ?_
      refine z_get C0 hP hX.n0 hX.o fd_X4_49 rfl dX4_cordsFor_67 ?_
      refine lv_iconst (v := 0) hx hb dX4_cordsFor_70 (by decide) ?_
      refine lv_iload_n hx hb dX4_cordsFor_71 rfl (lv_at hl 1 rfl) ?_
      refine lv_iconst (v := 0) hx hb dX4_cordsFor_72 (by decide) ?_
      refine lv_iconst (v := (-1)) hx hb dX4_cordsFor_73 (by decide) ?_
      refine z_Si_eq (As := [.ref (ad 220), .int 0, .int sum, .int 0, .int (-1)]) (rest := []) C0 hP hS hl.1 (m_X4_bestByTrying_7 l _ hB) lk_X4_240 rfl rfl (Nat.le_of_ble_eq_true rfl) ⟨Nat.le_of_ble_eq_true rfl, Nat.le_of_ble_eq_true rfl⟩ rfl rfl ⟨Nat.zero_le _, Nat.zero_le _⟩ dX4_cordsFor_74 (fun H locs hP hS => ?_)
      exact z_iret C0 hP hS hr (⟨(by first | exact zfor0 hw c_52 | exact zfor1 hw c_52), ⟨_, _, rs, _, hX, hH, hHi, hR, hTr, hSn⟩, hFr⟩) dX4_cordsFor_77
    · refine lv_aload_n hx hb dX4_cordsFor_55 rfl (lv_at hl 0 rfl) ?_
      refine z_get C0 hP hX.n0 hX.o fd_X4_49 rfl dX4_cordsFor_56 ?_
      refine lv_iload_n hx hb dX4_cordsFor_59 rfl (lv_at hl 1 rfl) ?_
      refine z_Si_eq (As := [.ref (ad 220), .int sum]) (rest := []) C0 hP hS hl.1 (m_X4_bestOfAllSets l _ hB) lk_X4_236 rfl rfl (Nat.le_of_ble_eq_true rfl) ⟨Nat.le_of_ble_eq_true rfl, Nat.le_of_ble_eq_true rfl⟩ rfl rfl ⟨Nat.zero_le _, Nat.zero_le _⟩ dX4_cordsFor_60 (fun H locs hP hS => ?_)
      refine lv_goto (tgt := 77) hx hb dX4_cordsFor_63 (by decide) ?_
      exact z_iret C0 hP hS hr (⟨(by first | exact zfor0 hw c_52 | exact zfor1 hw c_52), ⟨_, _, rs, _, hX, hH, hHi, hR, hTr, hSn⟩, hFr⟩) dX4_cordsFor_77
  · refine lv_iload_n hx hb dX4_cordsFor_25 rfl (lv_at hl 2 rfl) ?_
    refine lv_iconst (v := 1) hx hb dX4_cordsFor_26 (by decide) ?_
    refine lv_icmp_eq (tgt := 40) hx hb dX4_cordsFor_27 (by decide) (fun c_27 => ?_) (fun c_27 => absurd (show (nI wz : Int32) = 1 from congrArg nI (show wz = 1 by have : wz ≠ 0 := fun q => c_22 (by subst q; rfl); omega)) c_27)
    refine lv_aload_n hx hb dX4_cordsFor_40 rfl (lv_at hl 0 rfl) ?_
    refine z_get C0 hP hX.n0 hX.o fd_X4_10 rfl dX4_cordsFor_41 ?_
    refine lv_aload_n hx hb dX4_cordsFor_44 rfl (lv_at hl 0 rfl) ?_
    refine z_get C0 hP hX.n0 hX.o fd_X4_49 rfl dX4_cordsFor_45 ?_
    have hB : isA cy K ad g 220 7 tl := isA.of hX.n220 hX.a_tl
    have hX0 := hX
    obtain ⟨fs_48, hfs_48⟩ := hH.rc
    refine z_Vv_mo (As := [.ref (ad 220)]) (rest := []) C0 hP hS hl.1 (m_X1_tellEach l _ hH hB (by omega)) lk_X4_232 hH.n0 hfs_48 rfl rfl (Nat.le_of_ble_eq_true rfl) ⟨Nat.le_of_ble_eq_true rfl, Nat.le_of_ble_eq_true rfl⟩ rfl rfl ⟨Nat.zero_le _, Nat.zero_le _⟩ dX4_cordsFor_48 (fun g_2 H locs hP hS hp => ?_)
    obtain ⟨hB, hF1⟩ := hp
    have hH := hH.kept hF1 (by intro z9 h8 h9; first | (dsimp only [zOne, zRg, zCl]; omega) | (dsimp only; omega) | omega)
    have hHi := hHi.kept hF1 (by intro z9 h8 h9; first | (dsimp only [zOne, zRg, zCl]; omega) | (dsimp only; omega) | omega)
    have hR := hR.kept hF1 (by first | (dsimp only [zOne, zRg, zCl]; omega) | (dsimp only; omega) | omega)
    have hTr := hTr.kept hF1 (by intro z9 h8 h9; first | (dsimp only [zOne, zRg, zCl]; omega) | (dsimp only; omega) | omega)
    have hSn := hSn.kept hF1 (by intro z9 h8; first | (dsimp only [zOne, zRg, zCl]; omega) | (dsimp only; omega) | omega)
    have hFr := hFr.tr (hF1.mono (by intro x9 hx9; first | (dsimp only [zOne, zRg, zCl] at hx9 ⊢; omega) | (dsimp only at hx9 ⊢; omega) | omega))
    have hX := isX_tl hX0 hF1 hB
    refine lv_iload_n hx hb dX4_cordsFor_51 rfl (lv_at hl 2 rfl) ?_
    refine lv_if_ne (tgt := 66) hx hb dX4_cordsFor_52 (by decide) (fun c_52 => ?_) (fun c_52 => ?_)
    · refine lv_aload_n hx hb dX4_cordsFor_66 rfl (lv_at hl 0 rfl) ?_
      refine z_get C0 hP hX.n0 hX.o fd_X4_49 rfl dX4_cordsFor_67 ?_
      refine lv_iconst (v := 0) hx hb dX4_cordsFor_70 (by decide) ?_
      refine lv_iload_n hx hb dX4_cordsFor_71 rfl (lv_at hl 1 rfl) ?_
      refine lv_iconst (v := 0) hx hb dX4_cordsFor_72 (by decide) ?_
      refine lv_iconst (v := (-1)) hx hb dX4_cordsFor_73 (by decide) ?_
      refine z_Si_eq (As := [.ref (ad 220), .int 0, .int sum, .int 0, .int (-1)]) (rest := []) C0 hP hS hl.1 (m_X4_bestByTrying_7 l _ hB) lk_X4_240 rfl rfl (Nat.le_of_ble_eq_true rfl) ⟨Nat.le_of_ble_eq_true rfl, Nat.le_of_ble_eq_true rfl⟩ rfl rfl ⟨Nat.zero_le _, Nat.zero_le _⟩ dX4_cordsFor_74 (fun H locs hP hS => ?_)
      exact z_iret C0 hP hS hr (⟨(by first | exact zfor0 hw c_52 | exact zfor1 hw c_52), ⟨_, _, rs, _, hX, hH, hHi, hR, hTr, hSn⟩, hFr⟩) dX4_cordsFor_77
    · refine lv_aload_n hx hb dX4_cordsFor_55 rfl (lv_at hl 0 rfl) ?_
      refine z_get C0 hP hX.n0 hX.o fd_X4_49 rfl dX4_cordsFor_56 ?_
      refine lv_iload_n hx hb dX4_cordsFor_59 rfl (lv_at hl 1 rfl) ?_
      refine z_Si_eq (As := [.ref (ad 220), .int sum]) (rest := []) C0 hP hS hl.1 (m_X4_bestOfAllSets l _ hB) lk_X4_236 rfl rfl (Nat.le_of_ble_eq_true rfl) ⟨Nat.le_of_ble_eq_true rfl, Nat.le_of_ble_eq_true rfl⟩ rfl rfl ⟨Nat.zero_le _, Nat.zero_le _⟩ dX4_cordsFor_60 (fun H locs hP hS => ?_)
      refine lv_goto (tgt := 77) hx hb dX4_cordsFor_63 (by decide) ?_
      exact z_iret C0 hP hS hr (⟨(by first | exact zfor0 hw c_52 | exact zfor1 hw c_52), ⟨_, _, rs, _, hX, hH, hHi, hR, hTr, hSn⟩, hFr⟩) dX4_cordsFor_77
