set_option maxHeartbeats 4000000 in
set_option maxRecDepth 100000 in
theorem m_X5_behindNumber (l : Launch) {D : va_G} {cy : Nat → ClassId} {K : Nat} {ad : Nat → Nat} {g : Nat → va_E} (sz : Nat) {n : Nat} {sx az so ik sv tx kn lo : Nat → Int32} {th sm : Int32} {dg : Int64} {lw pz : Nat} (hM : isM cy K ad g n sx az so ik sv tx kn lo th sm ((nI lw)) dg) (hln : lw ≤ 60) (hp : pz < 2 ^ 30 + 16) : Met l yX5_behindNumber (zs yX5_behindNumber cX5_behindNumber 3 (some .int)) ({ frames := 2, cells := 0, slots := 0, locals := 42 } : Room) (va_Pc [.ref (ad n), .int (nI pz)] (zIn D cy K ad g sz)) (va_Qi (fun r g1 => g1 = g ∧ r = nI (pz + bnC tx lw pz 6)) (zOut D cy K ad sz) (zA K ad sz)) 0 0 (zA K ad sz) := by
  refine z_met (by decide) (Nat.le_of_ble_eq_true rfl) (fun p e s m below meth c ls hsz hl C0 hr hnm hP hS => ?_)
  subst hsz
  have hl : lv_has ls 3 [(0, .ref (ad n)), (1, .int (nI pz))] := hl
  have hx := C0.1; have hb := C0.2.1; have hown := C0.2.2.2.1; have hts := C0.2.2.2.2.1
  refine lv_iload_n hx hb dX5_behindNumber_0 rfl (lv_at hl 1 rfl) ?_
  refine lv_istore_n (lv' := [(2, .int (nI pz)), (0, .ref (ad n)), (1, .int (nI pz))]) hx hb dX5_behindNumber_1 rfl hl (by decide) rfl (fun ls hl => ?_)
  have lp_2 : ∀ (N : Nat) (kz : Nat) (hk : kz ≤ 6) (hn : bnC tx lw pz kz = kz), 6 - kz < N → ∀ (H : Heap) (locs : List Loc) (ls : Array Slot), zP D K ad g (zA K ad s.heap.size) H → va_S (zA K ad s.heap.size) s.heap H locs → lv_has ls 3 [(0, .ref (ad n)), (1, .int (nI pz)), (2, .int (nI (pz + kz)))] → W p l e ({ frames := 2, cells := 0, slots := 0, locals := 42 } : Room) s m [.ref (ad n), .int (nI pz)].toArray below meth c H locs 0 0 (MQ below (va_Qi (fun r g1 => g1 = g ∧ r = nI (pz + bnC tx lw pz 6)) (zOut D cy K ad s.heap.size) (zA K ad s.heap.size)) [.ref (ad n), .int (nI pz)].toArray s 0 0 (zA K ad s.heap.size)) (F0 m 2 ls []) := by
    intro N
    induction N with
    | zero => intro kz hk hn hN; exact absurd hN (Nat.not_lt_zero _)
    | succ N ih_2 =>
      intro kz hk hn hN H locs ls hP hS  hl
      refine lv_iload_n hx hb dX5_behindNumber_2 rfl (lv_at hl 2 rfl) ?_
      refine lv_iload_n hx hb dX5_behindNumber_3 rfl (lv_at hl 1 rfl) ?_
      refine lv_bipush (v := 6) hx hb dX5_behindNumber_4 (by decide) ?_
      refine lv_iadd hx hb dX5_behindNumber_6 ?_
      refine z_topi (y := nI (pz + 6)) (nI_add pz 6) ?_
      refine lv_icmp_ge (tgt := 39) hx hb dX5_behindNumber_7 (by decide) (fun c_7 => ?_) (fun c_7 => ?_)
      · have hk2 : kz = 6 := by have := z_ge_t c_7 (by omega) (by omega); omega
        refine lv_iload_n hx hb dX5_behindNumber_39 rfl (lv_at hl 2 rfl) ?_
        exact z_iret C0 hP hS hr (⟨rfl, by first | (rw [bnC_at hn hd9 (by omega)]) | (rw [hk2] at hn; rw [hn, hk2])⟩) dX5_behindNumber_40
      · have hk2 : kz < 6 := by have := z_ge_f c_7 (by omega) (by omega); omega
        refine lv_aload_n hx hb dX5_behindNumber_10 rfl (lv_at hl 0 rfl) ?_
        refine lv_iload_n hx hb dX5_behindNumber_11 rfl (lv_at hl 2 rfl) ?_
        refine z_Vi_eq (As := [.int (nI (pz + kz))]) (rest := []) C0 hP hS hl.1 (m_X5_digitAt l _ hM hln (by omega)) lk_X5_110 hM.n0 hM.o rfl rfl (Nat.le_of_ble_eq_true rfl) ⟨Nat.le_of_ble_eq_true rfl, Nat.le_of_ble_eq_true rfl⟩ rfl rfl ⟨Nat.zero_le _, Nat.zero_le _⟩ dX5_behindNumber_12 (fun H locs hP hS => ?_)
        refine lv_iload_n hx hb dX5_behindNumber_15 rfl (lv_at hl 2 rfl) ?_
        refine lv_iload_n hx hb dX5_behindNumber_16 rfl (lv_at hl 1 rfl) ?_
        refine lv_icmp_ne (tgt := 24) hx hb dX5_behindNumber_17 (by decide) (fun c_17 => ?_) (fun c_17 => ?_)
        · refine lv_iconst (v := 0) hx hb dX5_behindNumber_24 (by decide) ?_
          refine lv_bipush (v := 9) hx hb dX5_behindNumber_25 (by decide) ?_
          refine z_Si_eq (As := [.int (dgF tx lw (pz + kz)), .int 0, .int 9]) (rest := []) C0 hP hS hl.1 (m_X5_in l _ ) lk_X5_39 rfl rfl (Nat.le_of_ble_eq_true rfl) ⟨Nat.le_of_ble_eq_true rfl, Nat.le_of_ble_eq_true rfl⟩ rfl rfl ⟨Nat.zero_le _, Nat.zero_le _⟩ dX5_behindNumber_27 (fun H locs hP hS => ?_)
          refine lv_if_eq (tgt := 39) hx hb dX5_behindNumber_30 (by decide) (fun c_30 => ?_) (fun c_30 => ?_)
          · have hk0 : ¬ kz = 0 := fun q => c_17 (by rw [q]; rfl)
            have hiff : isDg tx lw pz kz ↔ (0 ≤ dgF tx lw (pz + kz) ∧ dgF tx lw (pz + kz) ≤ 9) := by show ((if kz = 0 then (1 : Int32) else 0) ≤ _ ∧ _) ↔ _; rw [if_neg hk0]
            have hd9 : ¬ isDg tx lw pz kz := fun q => absurd ((if_pos (hiff.mp q)).symm.trans c_30) (by decide)
            refine lv_iload_n hx hb dX5_behindNumber_39 rfl (lv_at hl 2 rfl) ?_
            exact z_iret C0 hP hS hr (⟨rfl, by first | (rw [bnC_at hn hd9 (by omega)]) | (rw [hk2] at hn; rw [hn, hk2])⟩) dX5_behindNumber_40
          · have hk0 : ¬ kz = 0 := fun q => c_17 (by rw [q]; rfl)
            have hiff : isDg tx lw pz kz ↔ (0 ≤ dgF tx lw (pz + kz) ∧ dgF tx lw (pz + kz) ≤ 9) := by show ((if kz = 0 then (1 : Int32) else 0) ≤ _ ∧ _) ↔ _; rw [if_neg hk0]
            have hd9 : isDg tx lw pz kz := hiff.mpr (Classical.byContradiction (fun q => c_30 (if_neg q)))
            refine lv_iinc (v := nI (pz + (kz + 1))) (lv' := [(2, .int (nI (pz + (kz + 1)))), (0, .ref (ad n)), (1, .int (nI pz))]) hx hb dX5_behindNumber_33 hl (k := 2) rfl (z_inc _) (by decide) rfl (fun ls hl => ?_)
            refine lv_goto (tgt := 2) hx hb dX5_behindNumber_36 (by decide) ?_
            exact ih_2 (kz + 1) (by omega) (bnC_up hn hd9) (by omega) _ _ _ hP hS  (lv_sub hl [1, 2, 0] rfl)
        · refine lv_iconst (v := 1) hx hb dX5_behindNumber_20 (by decide) ?_
          refine lv_goto (tgt := 25) hx hb dX5_behindNumber_21 (by decide) ?_
          refine lv_bipush (v := 9) hx hb dX5_behindNumber_25 (by decide) ?_
          refine z_Si_eq (As := [.int (dgF tx lw (pz + kz)), .int 1, .int 9]) (rest := []) C0 hP hS hl.1 (m_X5_in l _ ) lk_X5_39 rfl rfl (Nat.le_of_ble_eq_true rfl) ⟨Nat.le_of_ble_eq_true rfl, Nat.le_of_ble_eq_true rfl⟩ rfl rfl ⟨Nat.zero_le _, Nat.zero_le _⟩ dX5_behindNumber_27 (fun H locs hP hS => ?_)
          refine lv_if_eq (tgt := 39) hx hb dX5_behindNumber_30 (by decide) (fun c_30 => ?_) (fun c_30 => ?_)
          · have hk0 : kz = 0 := by have := (nI_eq (by omega) (by omega)).mp c_17; omega
            have hiff : isDg tx lw pz kz ↔ (1 ≤ dgF tx lw (pz + kz) ∧ dgF tx lw (pz + kz) ≤ 9) := by show ((if kz = 0 then (1 : Int32) else 0) ≤ _ ∧ _) ↔ _; rw [if_pos hk0]
            have hd9 : ¬ isDg tx lw pz kz := fun q => absurd ((if_pos (hiff.mp q)).symm.trans c_30) (by decide)
            refine lv_iload_n hx hb dX5_behindNumber_39 rfl (lv_at hl 2 rfl) ?_
            exact z_iret C0 hP hS hr (⟨rfl, by first | (rw [bnC_at hn hd9 (by omega)]) | (rw [hk2] at hn; rw [hn, hk2])⟩) dX5_behindNumber_40
          · have hk0 : kz = 0 := by have := (nI_eq (by omega) (by omega)).mp c_17; omega
            have hiff : isDg tx lw pz kz ↔ (1 ≤ dgF tx lw (pz + kz) ∧ dgF tx lw (pz + kz) ≤ 9) := by show ((if kz = 0 then (1 : Int32) else 0) ≤ _ ∧ _) ↔ _; rw [if_pos hk0]
            have hd9 : isDg tx lw pz kz := hiff.mpr (Classical.byContradiction (fun q => c_30 (if_neg q)))
            refine lv_iinc (v := nI (pz + (kz + 1))) (lv' := [(2, .int (nI (pz + (kz + 1)))), (0, .ref (ad n)), (1, .int (nI pz))]) hx hb dX5_behindNumber_33 hl (k := 2) rfl (z_inc _) (by decide) rfl (fun ls hl => ?_)
            refine lv_goto (tgt := 2) hx hb dX5_behindNumber_36 (by decide) ?_
            exact ih_2 (kz + 1) (by omega) (bnC_up hn hd9) (by omega) _ _ _ hP hS  (lv_sub hl [1, 2, 0] rfl)
  exact lp_2 _ 0 (Nat.zero_le _) rfl (Nat.lt_succ_self _) _ _ _ hP hS  (lv_sub hl [1, 2, 0] rfl)
set_option maxHeartbeats 4000000 in
set_option maxRecDepth 100000 in
theorem m_X5_behindOrder (l : Launch) {D : va_G} {cy : Nat → ClassId} {K : Nat} {ad : Nat → Nat} {g : Nat → va_E} (sz : Nat) {n : Nat} {sx az so ik sv tx kn lo : Nat → Int32} {th sm : Int32} {dg : Int64} {lw pz : Nat} (hM : isM cy K ad g n sx az so ik sv tx kn lo th sm ((nI lw)) dg) (hln : lw ≤ 60) (hp : pz < 2 ^ 30) : Met l yX5_behindOrder (zs yX5_behindOrder cX5_behindOrder 4 (some .int)) ({ frames := 3, cells := 0, slots := 0, locals := 64 } : Room) (va_Pc [.ref (ad n), .int (nI pz)] (zIn D cy K ad g sz)) (va_Qi (fun r g1 => g1 = g ∧ r = boV (boR tx lw pz)) (zOut D cy K ad sz) (zA K ad sz)) 0 0 (zA K ad sz) := by
  refine z_met (by decide) (Nat.le_of_ble_eq_true rfl) (fun p e s m below meth c ls hsz hl C0 hr hnm hP hS => ?_)
  subst hsz
  have hl : lv_has ls 4 [(0, .ref (ad n)), (1, .int (nI pz))] := hl
  have hx := C0.1; have hb := C0.2.1; have hown := C0.2.2.2.1; have hts := C0.2.2.2.2.1
  refine lv_aload_n hx hb dX5_behindOrder_0 rfl (lv_at hl 0 rfl) ?_
  refine lv_iload_n hx hb dX5_behindOrder_1 rfl (lv_at hl 1 rfl) ?_
  refine z_Vi_eq (As := [.int (nI pz)]) (rest := []) C0 hP hS hl.1 (m_X5_digitAt l _ hM hln (by omega)) lk_X5_110 hM.n0 hM.o rfl rfl (Nat.le_of_ble_eq_true rfl) ⟨Nat.le_of_ble_eq_true rfl, Nat.le_of_ble_eq_true rfl⟩ rfl rfl ⟨Nat.zero_le _, Nat.zero_le _⟩ dX5_behindOrder_2 (fun H locs hP hS => ?_)
  refine lv_istore_n (lv' := [(2, .int (dgF tx lw pz)), (0, .ref (ad n)), (1, .int (nI pz))]) hx hb dX5_behindOrder_5 rfl hl (by decide) rfl (fun ls hl => ?_)
  refine lv_iload_n hx hb dX5_behindOrder_6 rfl (lv_at hl 0 rfl) ?_
  refine z_Si_eq (As := [.int (dgF tx lw pz)]) (rest := []) C0 hP hS hl.1 (m_X5_isCord l _ ) lk_X5_82 rfl rfl (Nat.le_of_ble_eq_true rfl) ⟨Nat.le_of_ble_eq_true rfl, Nat.le_of_ble_eq_true rfl⟩ rfl rfl ⟨Nat.zero_le _, Nat.zero_le _⟩ dX5_behindOrder_7 (fun H locs hP hS => ?_)
  refine lv_if_ne (tgt := 17) hx hb dX5_behindOrder_10 (by decide) (fun c_10 => ?_) (fun c_10 => ?_)
  · have hc9 : 0 ≤ dgF tx lw pz ∧ dgF tx lw pz ≤ 6 := by by_cases q : 0 ≤ dgF tx lw pz ∧ dgF tx lw pz ≤ 6; exact q; exact absurd (if_neg q) c_10
    refine lv_aload_n hx hb dX5_behindOrder_17 rfl (lv_at hl 1 rfl) ?_
    refine lv_iload_n hx hb dX5_behindOrder_18 rfl (lv_at hl 2 rfl) ?_
    refine lv_iconst (v := 1) hx hb dX5_behindOrder_19 (by decide) ?_
    refine lv_iadd hx hb dX5_behindOrder_20 ?_
    refine z_topi (y := nI (pz + 1)) (nI_1 _) ?_
    refine z_Vi_eq (As := [.int (nI (pz + 1))]) (rest := []) C0 hP hS hl.1 (m_X5_charAt l _ hM hln (by omega)) lk_X5_107 hM.n0 hM.o rfl rfl (Nat.le_of_ble_eq_true rfl) ⟨Nat.le_of_ble_eq_true rfl, Nat.le_of_ble_eq_true rfl⟩ rfl rfl ⟨Nat.zero_le _, Nat.zero_le _⟩ dX5_behindOrder_21 (fun H locs hP hS => ?_)
    by_cases q43 : chF tx lw (pz + 1) = 43
    · refine lv_lookup (tgt := 60) hx hb dX5_behindOrder_24 (by decide) (off := 36) (by rw [q43]; decide) (by decide) ?_
      refine lv_aload_n hx hb dX5_behindOrder_60 rfl (lv_at hl 1 rfl) ?_
      refine lv_iload_n hx hb dX5_behindOrder_61 rfl (lv_at hl 2 rfl) ?_
      refine lv_iconst (v := 2) hx hb dX5_behindOrder_62 (by decide) ?_
      refine lv_iadd hx hb dX5_behindOrder_63 ?_
      refine z_topi (y := nI (pz + 2)) (nI_add pz 2) ?_
      refine z_Vi_eq (As := [.int (nI (pz + 2))]) (rest := []) C0 hP hS hl.1 (m_X5_behindNumber l _ hM hln (by omega)) lk_X5_113 hM.n0 hM.o rfl rfl (Nat.le_of_ble_eq_true rfl) ⟨Nat.le_of_ble_eq_true rfl, Nat.le_of_ble_eq_true rfl⟩ rfl rfl ⟨Nat.zero_le _, Nat.zero_le _⟩ dX5_behindOrder_64 (fun H locs hP hS => ?_)
      refine lv_istore_n (lv' := [(3, .int (nI (pz + 2 + bnC tx lw (pz + 2) 6))), (2, .int (dgF tx lw pz)), (0, .ref (ad n)), (1, .int (nI pz))]) hx hb dX5_behindOrder_67 rfl hl (by decide) rfl (fun ls hl => ?_)
      refine lv_iload_n hx hb dX5_behindOrder_68 rfl (lv_at hl 0 rfl) ?_
      refine lv_iload_n hx hb dX5_behindOrder_69 rfl (lv_at hl 3 rfl) ?_
      refine lv_iconst (v := 2) hx hb dX5_behindOrder_70 (by decide) ?_
      refine lv_iadd hx hb dX5_behindOrder_71 ?_
      refine z_topi (y := nI (pz + 2)) (nI_add pz 2) ?_
      refine lv_icmp_ne (tgt := 82) hx hb dX5_behindOrder_72 (by decide) (fun c_72 => ?_) (fun c_72 => ?_)
      · have hb9 : ¬ bnC tx lw (pz + 2) 6 = 0 := fun q => c_72 (by rw [q])
        refine lv_iload_n hx hb dX5_behindOrder_82 rfl (lv_at hl 0 rfl) ?_
        exact z_iret C0 hP hS hr (⟨rfl, (show _ = boV (boR tx lw pz) by rw [show boR tx lw pz = .inl (pz + 2 + bnC tx lw (pz + 2) 6) from (if_pos hc9).trans ((if_pos q43).trans (if_neg hb9))]; exact rfl)⟩) dX5_behindOrder_83
      · have hb9 : bnC tx lw (pz + 2) 6 = 0 := by have h6 := bnC_le tx lw (pz + 2) 6; have := (nI_eq (by omega) (by omega)).mp c_72; omega
        refine lv_bipush (v := (-3)) hx hb dX5_behindOrder_75 (by decide) ?_
        refine lv_iload_n hx hb dX5_behindOrder_77 rfl (lv_at hl 3 rfl) ?_
        refine lv_isub hx hb dX5_behindOrder_78 ?_
        refine lv_goto (tgt := 83) hx hb dX5_behindOrder_79 (by decide) ?_
        exact z_iret C0 hP hS hr (⟨rfl, (show _ = boV (boR tx lw pz) by rw [show boR tx lw pz = .inr (pz + 2) from (if_pos hc9).trans ((if_pos q43).trans (if_pos hb9))]; exact zm3 pz)⟩) dX5_behindOrder_83
    by_cases q62 : chF tx lw (pz + 1) = 62
    · refine lv_lookup (tgt := 84) hx hb dX5_behindOrder_24 (by decide) (off := 60) (by rw [q62]; decide) (by decide) ?_
      refine lv_aload_n hx hb dX5_behindOrder_84 rfl (lv_at hl 1 rfl) ?_
      refine lv_iload_n hx hb dX5_behindOrder_85 rfl (lv_at hl 2 rfl) ?_
      refine lv_iconst (v := 2) hx hb dX5_behindOrder_86 (by decide) ?_
      refine lv_iadd hx hb dX5_behindOrder_87 ?_
      refine z_topi (y := nI (pz + 2)) (nI_add pz 2) ?_
      refine z_Vi_eq (As := [.int (nI (pz + 2))]) (rest := []) C0 hP hS hl.1 (m_X5_digitAt l _ hM hln (by omega)) lk_X5_110 hM.n0 hM.o rfl rfl (Nat.le_of_ble_eq_true rfl) ⟨Nat.le_of_ble_eq_true rfl, Nat.le_of_ble_eq_true rfl⟩ rfl rfl ⟨Nat.zero_le _, Nat.zero_le _⟩ dX5_behindOrder_88 (fun H locs hP hS => ?_)
      refine z_Si_eq (As := [.int (dgF tx lw (pz + 2))]) (rest := []) C0 hP hS hl.1 (m_X5_isCord l _ ) lk_X5_82 rfl rfl (Nat.le_of_ble_eq_true rfl) ⟨Nat.le_of_ble_eq_true rfl, Nat.le_of_ble_eq_true rfl⟩ rfl rfl ⟨Nat.zero_le _, Nat.zero_le _⟩ dX5_behindOrder_91 (fun H locs hP hS => ?_)
      refine lv_if_eq (tgt := 114) hx hb dX5_behindOrder_94 (by decide) (fun c_94 => ?_) (fun c_94 => ?_)
      · have hy9 : ¬ ((0 ≤ dgF tx lw (pz + 2) ∧ dgF tx lw (pz + 2) ≤ 6) ∧ dgF tx lw (pz + 2) ≠ dgF tx lw pz) := fun q => absurd ((if_pos q.1).symm.trans c_94) (by decide)
        refine lv_bipush (v := (-3)) hx hb dX5_behindOrder_114 (by decide) ?_
        refine lv_iload_n hx hb dX5_behindOrder_116 rfl (lv_at hl 2 rfl) ?_
        refine lv_isub hx hb dX5_behindOrder_117 ?_
        exact z_iret C0 hP hS hr (⟨rfl, (show _ = boV (boR tx lw pz) by rw [show boR tx lw pz = .inr (pz + 2) from (if_pos hc9).trans ((if_neg q43).trans ((if_pos q62).trans (if_neg hy9)))]; exact zm3 pz)⟩) dX5_behindOrder_118
      · have hx9 : 0 ≤ dgF tx lw (pz + 2) ∧ dgF tx lw (pz + 2) ≤ 6 := by by_cases q : 0 ≤ dgF tx lw (pz + 2) ∧ dgF tx lw (pz + 2) ≤ 6; exact q; exact absurd (if_neg q) c_94
        refine lv_aload_n hx hb dX5_behindOrder_97 rfl (lv_at hl 1 rfl) ?_
        refine lv_iload_n hx hb dX5_behindOrder_98 rfl (lv_at hl 2 rfl) ?_
        refine lv_iconst (v := 2) hx hb dX5_behindOrder_99 (by decide) ?_
        refine lv_iadd hx hb dX5_behindOrder_100 ?_
        refine z_topi (y := nI (pz + 2)) (nI_add pz 2) ?_
        refine z_Vi_eq (As := [.int (nI (pz + 2))]) (rest := []) C0 hP hS hl.1 (m_X5_digitAt l _ hM hln (by omega)) lk_X5_110 hM.n0 hM.o rfl rfl (Nat.le_of_ble_eq_true rfl) ⟨Nat.le_of_ble_eq_true rfl, Nat.le_of_ble_eq_true rfl⟩ rfl rfl ⟨Nat.zero_le _, Nat.zero_le _⟩ dX5_behindOrder_101 (fun H locs hP hS => ?_)
        refine lv_iload_n hx hb dX5_behindOrder_104 rfl (lv_at hl 0 rfl) ?_
        refine lv_icmp_eq (tgt := 114) hx hb dX5_behindOrder_105 (by decide) (fun c_105 => ?_) (fun c_105 => ?_)
        · have hy9 : ¬ ((0 ≤ dgF tx lw (pz + 2) ∧ dgF tx lw (pz + 2) ≤ 6) ∧ dgF tx lw (pz + 2) ≠ dgF tx lw pz) := fun q => q.2 c_105
          refine lv_bipush (v := (-3)) hx hb dX5_behindOrder_114 (by decide) ?_
          refine lv_iload_n hx hb dX5_behindOrder_116 rfl (lv_at hl 2 rfl) ?_
          refine lv_isub hx hb dX5_behindOrder_117 ?_
          exact z_iret C0 hP hS hr (⟨rfl, (show _ = boV (boR tx lw pz) by rw [show boR tx lw pz = .inr (pz + 2) from (if_pos hc9).trans ((if_neg q43).trans ((if_pos q62).trans (if_neg hy9)))]; exact zm3 pz)⟩) dX5_behindOrder_118
        · have hz9 : (0 ≤ dgF tx lw (pz + 2) ∧ dgF tx lw (pz + 2) ≤ 6) ∧ dgF tx lw (pz + 2) ≠ dgF tx lw pz := ⟨hx9, c_105⟩
          refine lv_iload_n hx hb dX5_behindOrder_108 rfl (lv_at hl 2 rfl) ?_
          refine lv_iconst (v := 3) hx hb dX5_behindOrder_109 (by decide) ?_
          refine lv_iadd hx hb dX5_behindOrder_110 ?_
          refine z_topi (y := nI (pz + 3)) (nI_add pz 3) ?_
          refine lv_goto (tgt := 118) hx hb dX5_behindOrder_111 (by decide) ?_
          exact z_iret C0 hP hS hr (⟨rfl, (show _ = boV (boR tx lw pz) by rw [show boR tx lw pz = .inl (pz + 3) from (if_pos hc9).trans ((if_neg q43).trans ((if_pos q62).trans (if_pos hz9)))]; exact rfl)⟩) dX5_behindOrder_118
    by_cases q126 : chF tx lw (pz + 1) = 126
    · refine lv_lookup (tgt := 119) hx hb dX5_behindOrder_24 (by decide) (off := 95) (by rw [q126]; decide) (by decide) ?_
      refine lv_aload_n hx hb dX5_behindOrder_119 rfl (lv_at hl 1 rfl) ?_
      refine lv_iload_n hx hb dX5_behindOrder_120 rfl (lv_at hl 2 rfl) ?_
      refine lv_iconst (v := 2) hx hb dX5_behindOrder_121 (by decide) ?_
      refine lv_iadd hx hb dX5_behindOrder_122 ?_
      refine z_topi (y := nI (pz + 2)) (nI_add pz 2) ?_
      refine z_Vi_eq (As := [.int (nI (pz + 2))]) (rest := []) C0 hP hS hl.1 (m_X5_digitAt l _ hM hln (by omega)) lk_X5_110 hM.n0 hM.o rfl rfl (Nat.le_of_ble_eq_true rfl) ⟨Nat.le_of_ble_eq_true rfl, Nat.le_of_ble_eq_true rfl⟩ rfl rfl ⟨Nat.zero_le _, Nat.zero_le _⟩ dX5_behindOrder_123 (fun H locs hP hS => ?_)
      refine lv_iconst (v := 0) hx hb dX5_behindOrder_126 (by decide) ?_
      refine lv_iconst (v := 5) hx hb dX5_behindOrder_127 (by decide) ?_
      refine z_Si_eq (As := [.int (dgF tx lw (pz + 2)), .int 0, .int 5]) (rest := []) C0 hP hS hl.1 (m_X5_in l _ ) lk_X5_39 rfl rfl (Nat.le_of_ble_eq_true rfl) ⟨Nat.le_of_ble_eq_true rfl, Nat.le_of_ble_eq_true rfl⟩ rfl rfl ⟨Nat.zero_le _, Nat.zero_le _⟩ dX5_behindOrder_128 (fun H locs hP hS => ?_)
      refine lv_if_eq (tgt := 140) hx hb dX5_behindOrder_131 (by decide) (fun c_131 => ?_) (fun c_131 => ?_)
      · have hy9 : ¬ (0 ≤ dgF tx lw (pz + 2) ∧ dgF tx lw (pz + 2) ≤ 5) := fun q => absurd ((if_pos q).symm.trans c_131) (by decide)
        refine lv_bipush (v := (-3)) hx hb dX5_behindOrder_140 (by decide) ?_
        refine lv_iload_n hx hb dX5_behindOrder_142 rfl (lv_at hl 2 rfl) ?_
        refine lv_isub hx hb dX5_behindOrder_143 ?_
        exact z_iret C0 hP hS hr (⟨rfl, (show _ = boV (boR tx lw pz) by rw [show boR tx lw pz = .inr (pz + 2) from (if_pos hc9).trans ((if_neg q43).trans ((if_neg q62).trans ((if_pos q126).trans (if_neg hy9))))]; exact zm3 pz)⟩) dX5_behindOrder_144
      · have hz9 : 0 ≤ dgF tx lw (pz + 2) ∧ dgF tx lw (pz + 2) ≤ 5 := by by_cases q : 0 ≤ dgF tx lw (pz + 2) ∧ dgF tx lw (pz + 2) ≤ 5; exact q; exact absurd (if_neg q) c_131
        refine lv_iload_n hx hb dX5_behindOrder_134 rfl (lv_at hl 2 rfl) ?_
        refine lv_iconst (v := 3) hx hb dX5_behindOrder_135 (by decide) ?_
        refine lv_iadd hx hb dX5_behindOrder_136 ?_
        refine z_topi (y := nI (pz + 3)) (nI_add pz 3) ?_
        refine lv_goto (tgt := 144) hx hb dX5_behindOrder_137 (by decide) ?_
        exact z_iret C0 hP hS hr (⟨rfl, (show _ = boV (boR tx lw pz) by rw [show boR tx lw pz = .inl (pz + 3) from (if_pos hc9).trans ((if_neg q43).trans ((if_neg q62).trans ((if_pos q126).trans (if_pos hz9))))]; exact rfl)⟩) dX5_behindOrder_144
    refine lv_lookup (tgt := 145) hx hb dX5_behindOrder_24 (by decide) (off := 121) (lkO q43 q62 q126) (by decide) ?_
    refine lv_bipush (v := (-2)) hx hb dX5_behindOrder_145 (by decide) ?_
    refine lv_iload_n hx hb dX5_behindOrder_147 rfl (lv_at hl 2 rfl) ?_
    refine lv_isub hx hb dX5_behindOrder_148 ?_
    exact z_iret C0 hP hS hr (⟨rfl, (show _ = boV (boR tx lw pz) by rw [show boR tx lw pz = .inr (pz + 1) from (if_pos hc9).trans ((if_neg q43).trans ((if_neg q62).trans (if_neg q126)))]; exact zm2 pz)⟩) dX5_behindOrder_149
  · have hc9 : ¬ (0 ≤ dgF tx lw pz ∧ dgF tx lw pz ≤ 6) := fun q => absurd ((if_pos q).symm.trans c_10) (by decide)
    refine lv_iconst (v := (-1)) hx hb dX5_behindOrder_13 (by decide) ?_
    refine lv_iload_n hx hb dX5_behindOrder_14 rfl (lv_at hl 2 rfl) ?_
    refine lv_isub hx hb dX5_behindOrder_15 ?_
    exact z_iret C0 hP hS hr (⟨rfl, (show _ = boV (boR tx lw pz) by rw [show boR tx lw pz = .inr pz from if_neg hc9]; exact rfl)⟩) dX5_behindOrder_16
set_option maxHeartbeats 4000000 in
set_option maxRecDepth 100000 in
theorem m_X5_wrong (l : Launch) {D : va_G} {cy : Nat → ClassId} {K : Nat} {ad : Nat → Nat} {g : Nat → va_E} (sz : Nat) {n : Nat} {sx az so ik sv tx kn lo : Nat → Int32} {th sm : Int32} {dg : Int64} {lw : Nat} (hM : isM cy K ad g n sx az so ik sv tx kn lo th sm ((nI lw)) dg) (hln : lw ≤ 60) : Met l yX5_wrong (zs yX5_wrong cX5_wrong 3 (some .int)) ({ frames := 4, cells := 0, slots := 0, locals := 87 } : Room) (va_Pc [.ref (ad n)] (zIn D cy K ad g sz)) (va_Qi (fun r g1 => g1 = g ∧ r = wrV (wrR tx lw (lw + 1) 0)) (zOut D cy K ad sz) (zA K ad sz)) 0 0 (zA K ad sz) := by
  refine z_met (by decide) (Nat.le_of_ble_eq_true rfl) (fun p e s m below meth c ls hsz hl C0 hr hnm hP hS => ?_)
  subst hsz
  have hl : lv_has ls 3 [(0, .ref (ad n))] := hl
  have hx := C0.1; have hb := C0.2.1; have hown := C0.2.2.2.1; have hts := C0.2.2.2.2.1
  refine lv_iconst (v := (nI 0)) hx hb dX5_wrong_0 (by decide) ?_
  refine lv_istore_n (lv' := [(1, .int (nI 0)), (0, .ref (ad n))]) hx hb dX5_wrong_1 rfl hl (by decide) rfl (fun ls hl => ?_)
  refine lv_iconst (v := 1) hx hb dX5_wrong_2 (by decide) ?_
  refine lv_istore_n (lv' := [(2, .int 1), (1, .int (nI 0)), (0, .ref (ad n))]) hx hb dX5_wrong_3 rfl hl (by decide) rfl (fun ls hl => ?_)
  have lp_4 : ∀ (N : Nat) (pz fz : Nat) (hp0 : pz ≤ lw) (hfz : lw < pz + fz) (hW : wrR tx lw fz pz = wrR tx lw (lw + 1) 0), lw + 1 - pz < N → ∀ (H : Heap) (locs : List Loc) (ls : Array Slot), zP D K ad g (zA K ad s.heap.size) H → va_S (zA K ad s.heap.size) s.heap H locs → lv_has ls 3 [(0, .ref (ad n)), (1, .int (nI pz)), (2, .int 1)] → W p l e ({ frames := 4, cells := 0, slots := 0, locals := 87 } : Room) s m [.ref (ad n)].toArray below meth c H locs 0 0 (MQ below (va_Qi (fun r g1 => g1 = g ∧ r = wrV (wrR tx lw (lw + 1) 0)) (zOut D cy K ad s.heap.size) (zA K ad s.heap.size)) [.ref (ad n)].toArray s 0 0 (zA K ad s.heap.size)) (F0 m 4 ls []) := by
    intro N
    induction N with
    | zero => intro pz fz hp0 hfz hW hN; exact absurd hN (Nat.not_lt_zero _)
    | succ N ih_4 =>
      intro pz fz hp0 hfz hW hN H locs ls hP hS  hl
      refine lv_iload_n hx hb dX5_wrong_4 rfl (lv_at hl 2 rfl) ?_
      refine lv_if_eq (tgt := 68) hx hb dX5_wrong_5 (by decide) (fun c_5 => absurd c_5 (by decide)) (fun c_5 => ?_)
      refine lv_aload_n hx hb dX5_wrong_8 rfl (lv_at hl 0 rfl) ?_
      refine lv_iload_n hx hb dX5_wrong_9 rfl (lv_at hl 1 rfl) ?_
      refine z_Vi_eq (As := [.int (nI pz)]) (rest := []) C0 hP hS hl.1 (m_X5_behindOrder l _ hM hln (by omega)) lk_X5_116 hM.n0 hM.o rfl rfl (Nat.le_of_ble_eq_true rfl) ⟨Nat.le_of_ble_eq_true rfl, Nat.le_of_ble_eq_true rfl⟩ rfl rfl ⟨Nat.zero_le _, Nat.zero_le _⟩ dX5_wrong_10 (fun H locs hP hS => ?_)
      obtain ⟨f9, hf9⟩ : ∃ f9, fz = f9 + 1 := ⟨fz - 1, by omega⟩
      subst hf9
      cases hB : boR tx lw pz with
      | inr e9 =>
        refine z_topi (y := -1 - nI e9) rfl ?_
        have he9 := boR_er hB
        have hW2 := hW.symm.trans (wrR_e hB)
        refine lv_istore_n (lv' := [(1, .int (-1 - nI e9)), (0, .ref (ad n)), (2, .int 1)]) hx hb dX5_wrong_13 rfl hl (by decide) rfl (fun ls hl => ?_)
        refine lv_iload_n hx hb dX5_wrong_14 rfl (lv_at hl 0 rfl) ?_
        refine lv_if_ge (tgt := 22) hx hb dX5_wrong_15 (by decide) (fun c_15 => absurd c_15 (neg1_lt e9 (by omega))) (fun c_15 => ?_)
        refine lv_iconst (v := (-1)) hx hb dX5_wrong_18 (by decide) ?_
        refine lv_iload_n hx hb dX5_wrong_19 rfl (lv_at hl 0 rfl) ?_
        refine lv_isub hx hb dX5_wrong_20 ?_
        exact z_iret C0 hP hS hr (⟨rfl, by rw [hW2]; exact neg1_neg e9⟩) dX5_wrong_21
      | inl b9 =>
        refine z_topi (y := nI b9) rfl ?_
        have hb9 := boR_le hB
        have hW1 := hW.symm.trans (wrR_b hB)
        refine lv_istore_n (lv' := [(1, .int (nI b9)), (0, .ref (ad n)), (2, .int 1)]) hx hb dX5_wrong_13 rfl hl (by decide) rfl (fun ls hl => ?_)
        refine lv_iload_n hx hb dX5_wrong_14 rfl (lv_at hl 0 rfl) ?_
        refine lv_if_ge (tgt := 22) hx hb dX5_wrong_15 (by decide) (fun c_15 => ?_) (fun c_15 => absurd (Int32.not_lt.mp (nI_pos (by omega))) c_15)
        refine lv_iload_n hx hb dX5_wrong_22 rfl (lv_at hl 0 rfl) ?_
        refine lv_aload_n hx hb dX5_wrong_23 rfl (lv_at hl 1 rfl) ?_
        refine z_get C0 hP hM.n0 hM.o fd_X5_104 rfl dX5_wrong_24 ?_
        refine lv_icmp_ge (tgt := 34) hx hb dX5_wrong_27 (by decide) (fun c_27 => ?_) (fun c_27 => ?_)
        · have hl9 : ¬ b9 < lw := by have := z_ge_t c_27 (by omega) (by omega); omega
          refine lv_iconst (v := 0) hx hb dX5_wrong_34 (by decide) ?_
          refine lv_istore_n (lv' := [(2, .int 0), (1, .int (nI b9)), (0, .ref (ad n))]) hx hb dX5_wrong_35 rfl hl (by decide) rfl (fun ls hl => ?_)
          refine lv_iload_n hx hb dX5_wrong_36 rfl (lv_at hl 0 rfl) ?_
          refine lv_if_eq (tgt := 53) hx hb dX5_wrong_37 (by decide) (fun c_37 => ?_) (fun c_37 => absurd c_37 (by decide))
          refine lv_iload_n hx hb dX5_wrong_53 rfl (lv_at hl 1 rfl) ?_
          refine lv_iload_n hx hb dX5_wrong_54 rfl (lv_at hl 0 rfl) ?_
          refine lv_if_eq (tgt := 62) hx hb dX5_wrong_55 (by decide) (fun c_55 => ?_) (fun c_55 => absurd c_55 (by decide))
          refine lv_iconst (v := 0) hx hb dX5_wrong_62 (by decide) ?_
          refine lv_iadd hx hb dX5_wrong_63 ?_
          refine z_topi (y := (nI b9) + 0) rfl ?_
          refine lv_istore_n (lv' := [(1, .int ((nI b9) + 0)), (2, .int 0), (0, .ref (ad n))]) hx hb dX5_wrong_64 rfl hl (by decide) rfl (fun ls hl => ?_)
          refine lv_goto (tgt := 4) hx hb dX5_wrong_65 (by decide) ?_
          refine lv_iload_n hx hb dX5_wrong_4 rfl (lv_at hl 1 rfl) ?_
          refine lv_if_eq (tgt := 68) hx hb dX5_wrong_5 (by decide) (fun c_5 => ?_) (fun c_5 => absurd c_5 (by decide))
          refine lv_iconst (v := (-1)) hx hb dX5_wrong_68 (by decide) ?_
          exact z_iret C0 hP hS hr (⟨rfl, by rw [hW1.trans (if_neg hl9)]; rfl⟩) dX5_wrong_69
        · have hl9 : b9 < lw := z_ge_f c_27 (by omega) (by omega)
          refine lv_iconst (v := 1) hx hb dX5_wrong_30 (by decide) ?_
          refine lv_goto (tgt := 35) hx hb dX5_wrong_31 (by decide) ?_
          refine lv_istore_n (lv' := [(2, .int 1), (1, .int (nI b9)), (0, .ref (ad n))]) hx hb dX5_wrong_35 rfl hl (by decide) rfl (fun ls hl => ?_)
          refine lv_iload_n hx hb dX5_wrong_36 rfl (lv_at hl 0 rfl) ?_
          refine lv_if_eq (tgt := 53) hx hb dX5_wrong_37 (by decide) (fun c_37 => absurd c_37 (by decide)) (fun c_37 => ?_)
          refine lv_aload_n hx hb dX5_wrong_40 rfl (lv_at hl 2 rfl) ?_
          refine z_get C0 hP hM.n0 hM.o fd_X5_26 rfl dX5_wrong_41 ?_
          refine lv_iload_n hx hb dX5_wrong_44 rfl (lv_at hl 1 rfl) ?_
          refine z_iald C0 hP hM.n6 hM.a_tx (zIx_nI (by omega) (by decide)) dX5_wrong_45 ?_
          refine lv_bipush (v := 59) hx hb dX5_wrong_46 (by decide) ?_
          refine lv_icmp_eq (tgt := 53) hx hb dX5_wrong_48 (by decide) (fun c_48 => ?_) (fun c_48 => ?_)
          · have hW2 : wrR tx lw f9 (b9 + 1) = wrR tx lw (lw + 1) 0 := (hW1.trans ((if_pos hl9).trans (if_pos c_48))).symm
            refine lv_iload_n hx hb dX5_wrong_53 rfl (lv_at hl 1 rfl) ?_
            refine lv_iload_n hx hb dX5_wrong_54 rfl (lv_at hl 0 rfl) ?_
            refine lv_if_eq (tgt := 62) hx hb dX5_wrong_55 (by decide) (fun c_55 => absurd c_55 (by decide)) (fun c_55 => ?_)
            refine lv_iconst (v := 1) hx hb dX5_wrong_58 (by decide) ?_
            refine lv_goto (tgt := 63) hx hb dX5_wrong_59 (by decide) ?_
            refine lv_iadd hx hb dX5_wrong_63 ?_
            refine z_topi (y := nI (b9 + 1)) (nI_1 _) ?_
            refine lv_istore_n (lv' := [(1, .int (nI (b9 + 1))), (2, .int 1), (0, .ref (ad n))]) hx hb dX5_wrong_64 rfl hl (by decide) rfl (fun ls hl => ?_)
            refine lv_goto (tgt := 4) hx hb dX5_wrong_65 (by decide) ?_
            exact ih_4 (b9 + 1) f9 (by omega) (by have := (boR_le hB).1; omega) hW2 (by omega) _ _ _ hP hS  (lv_sub hl [2, 0, 1] rfl)
          · have hW2 : wrR tx lw (lw + 1) 0 = some b9 := hW1.trans ((if_pos hl9).trans (if_neg c_48))
            refine lv_iload_n hx hb dX5_wrong_51 rfl (lv_at hl 1 rfl) ?_
            exact z_iret C0 hP hS hr (⟨rfl, by rw [hW2]; rfl⟩) dX5_wrong_52
  exact lp_4 _ 0 (lw + 1) (Nat.zero_le _) (by omega) rfl (Nat.lt_succ_self _) _ _ _ hP hS  (lv_sub hl [2, 1, 0] rfl)
set_option maxHeartbeats 4000000 in
set_option maxRecDepth 100000 in
theorem m_X5_firstError (l : Launch) {D : va_G} {cy : Nat → ClassId} {K : Nat} {ad : Nat → Nat} {g : Nat → va_E} (sz : Nat) {n : Nat} {sx az so ik sv tx kn lo : Nat → Int32} {th sm : Int32} {dg : Int64} {lw : Nat} (hM : isM cy K ad g n sx az so ik sv tx kn lo th sm ((nI lw)) dg) (hln : lw ≤ 60) : Met l yX5_firstError (zs yX5_firstError cX5_firstError 1 (some .int)) ({ frames := 5, cells := 0, slots := 0, locals := 109 } : Room) (va_Pc [.ref (ad n)] (zIn D cy K ad g sz)) (va_Qi (fun r g1 => r = (if wrR tx lw (lw + 1) 0 = none then nI lw else wrV (wrR tx lw (lw + 1) 0)) ∧ isM cy K ad g1 n sx az so ik sv tx kn lo 0 sm (nI lw) dg ∧ zFr (zRg n (n + 9)) g g1) (zOut D cy K ad sz) (zA K ad sz)) 0 0 (zA K ad sz) := by
  refine z_met (by decide) (Nat.le_of_ble_eq_true rfl) (fun p e s m below meth c ls hsz hl C0 hr hnm hP hS => ?_)
  subst hsz
  have hl : lv_has ls 1 [(0, .ref (ad n))] := hl
  have hx := C0.1; have hb := C0.2.1; have hown := C0.2.2.2.1; have hts := C0.2.2.2.2.1
  have hFr : zFr (zRg n (n + 9)) g g := zFr.rf
  refine lv_aload_n hx hb dX5_firstError_0 rfl (lv_at hl 0 rfl) ?_
  refine lv_iconst (v := 0) hx hb dX5_firstError_1 (by decide) ?_
  refine zp_M_th C0 hP hS hM hFr (by first | rfl | (dsimp only [zOne, zRg, zCl]; omega) | (dsimp only; omega) | omega) fp_X5_35 dX5_firstError_2 (fun g_1 H locs hP hS hM hFr hF1 => ?_)
  refine lv_aload_n hx hb dX5_firstError_5 rfl (lv_at hl 0 rfl) ?_
  refine z_Vi_eq (As := []) (rest := []) C0 hP hS hl.1 (m_X5_wrong l _ hM hln) lk_X5_119 hM.n0 hM.o rfl rfl (Nat.le_of_ble_eq_true rfl) ⟨Nat.le_of_ble_eq_true rfl, Nat.le_of_ble_eq_true rfl⟩ rfl rfl ⟨Nat.zero_le _, Nat.zero_le _⟩ dX5_firstError_6 (fun H locs hP hS => ?_)
  refine lv_iconst (v := (-1)) hx hb dX5_firstError_9 (by decide) ?_
  refine lv_icmp_ne (tgt := 20) hx hb dX5_firstError_10 (by decide) (fun c_10 => ?_) (fun c_10 => ?_)
  · refine lv_aload_n hx hb dX5_firstError_20 rfl (lv_at hl 0 rfl) ?_
    refine z_Vi_eq (As := []) (rest := []) C0 hP hS hl.1 (m_X5_wrong l _ hM hln) lk_X5_119 hM.n0 hM.o rfl rfl (Nat.le_of_ble_eq_true rfl) ⟨Nat.le_of_ble_eq_true rfl, Nat.le_of_ble_eq_true rfl⟩ rfl rfl ⟨Nat.zero_le _, Nat.zero_le _⟩ dX5_firstError_21 (fun H locs hP hS => ?_)
    exact z_iret C0 hP hS hr (⟨(if_neg (fun q => c_10 (by rw [q]; rfl))).symm, hM, hFr⟩) dX5_firstError_24
  · refine lv_aload_n hx hb dX5_firstError_13 rfl (lv_at hl 0 rfl) ?_
    refine z_get C0 hP hM.n0 hM.o fd_X5_104 rfl dX5_firstError_14 ?_
    refine lv_goto (tgt := 24) hx hb dX5_firstError_17 (by decide) ?_
    exact z_iret C0 hP hS hr (⟨(if_pos (wrV_m1 c_10 (fun e9 he9 => by have := wrR_lt (Nat.zero_le _) he9; omega))).symm, hM, hFr⟩) dX5_firstError_24
