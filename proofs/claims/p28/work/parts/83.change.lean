set_option maxHeartbeats 4000000 in
set_option maxRecDepth 100000 in
theorem m_L_change (l : Launch) {D : va_G} {cy : Nat → ClassId} {K : Nat} {ad : Nat → Nat} {g : Nat → va_E} (sz : Nat) {st : Nat → Int32} {sv : Nat → Nat → Int32} {nx sz2 : Nat} {ns : Nat → Option Nat} {ss : Nat → Nat → Int32} {bu : Nat → Int32} {ln : Nat} {tz : Nat} {xz yz : Int32} (hTT : isT cy K ad g st sv nx sz2 ns ss bu ln) (hI : pI tz st) (hnx : nx < 6) (hsz : sz2 ≤ 6) (ht : tz ≤ 1000) : Met l yL_change (zs yL_change cL_change 18 (some .boolean)) ({ frames := 7, cells := 0, slots := 0, locals := 182 } : Room) (va_Pc [.ref (ad 0), .int xz, .int yz] (zIn D cy K ad g sz)) (va_Qi (fun r g1 => r = 1 ∧ ∃ (s2 : Nat → Int32) (v2 : Nat → Nat → Int32) (n2 z2 : Nat), isT cy K ad g1 s2 v2 n2 z2 ns ss bu ln ∧ pI (tz + 1) s2 ∧ n2 < 6 ∧ z2 ≤ 6 ∧ zFr zCl g g1) (zOut D cy K ad sz) (zA K ad sz)) 0 0 (zA K ad sz) := by
  refine z_met (by decide) (Nat.le_of_ble_eq_true rfl) (fun p e s m below meth c ls hsz hl C0 hr hnm hP hS => ?_)
  subst hsz
  have hl : lv_has ls 18 [(0, .ref (ad 0)), (1, .int xz), (2, .int yz)] := hl
  have hx := C0.1; have hb := C0.2.1; have hown := C0.2.2.2.1; have hts := C0.2.2.2.2.1
  have hFr : zFr (zCl) g g := zFr.rf
  refine lv_iload_n hx hb dL_change_0 rfl (lv_at hl 2 rfl) ?_
  refine lv_bipush (v := (nI 7)) hx hb dL_change_1 (by decide) ?_
  refine z_Si_eq (As := [.int yz, .int (nI 7)]) (rest := []) C0 hP hS hl.1 (m_L_low l _ (by decide) (by decide)) lk_L_9 rfl rfl (Nat.le_of_ble_eq_true rfl) ⟨Nat.le_of_ble_eq_true rfl, Nat.le_of_ble_eq_true rfl⟩ rfl rfl ⟨Nat.zero_le _, Nat.zero_le _⟩ dL_change_3 (fun H locs hP hS => ?_)
  obtain ⟨iz, hi, ei⟩ := lowF_rng yz (n := 7) (by decide) (by decide)
  refine z_topi (y := nI iz) ei ?_
  refine lv_istore_n (lv' := [(3, .int (nI iz)), (0, .ref (ad 0)), (1, .int xz), (2, .int yz)]) hx hb dL_change_6 rfl hl (by decide) rfl (fun ls hl => ?_)
  refine lv_iload_n hx hb dL_change_7 rfl (lv_at hl 3 rfl) ?_
  refine lv_iconst (v := 4) hx hb dL_change_8 (by decide) ?_
  refine lv_ishr hx hb dL_change_9 ?_
  refine lv_bipush (v := (nI 7)) hx hb dL_change_10 (by decide) ?_
  refine z_Si_eq (As := [.int (yz >>> (4 &&& 31)), .int (nI 7)]) (rest := []) C0 hP hS hl.1 (m_L_low l _ (by decide) (by decide)) lk_L_9 rfl rfl (Nat.le_of_ble_eq_true rfl) ⟨Nat.le_of_ble_eq_true rfl, Nat.le_of_ble_eq_true rfl⟩ rfl rfl ⟨Nat.zero_le _, Nat.zero_le _⟩ dL_change_12 (fun H locs hP hS => ?_)
  obtain ⟨jz, hj, ej⟩ := lowF_rng (yz >>> ((4 : Int32) &&& 31)) (n := 7) (by decide) (by decide)
  refine z_topi (y := nI jz) ej ?_
  refine lv_istore (lv' := [(4, .int (nI jz)), (3, .int (nI iz)), (0, .ref (ad 0)), (1, .int xz), (2, .int yz)]) hx hb dL_change_15 hl (by decide) rfl (fun ls hl => ?_)
  refine lv_aload_n hx hb dL_change_17 rfl (lv_at hl 2 rfl) ?_
  refine lv_iload_n hx hb dL_change_18 rfl (lv_at hl 1 rfl) ?_
  refine lv_iconst (v := (nI 0)) hx hb dL_change_19 (by decide) ?_
  obtain ⟨fs_20, hfs_20⟩ := hTT.rc
  refine z_Vi_eq (As := [.int (nI iz), .int (nI 0)]) (rest := []) C0 hP hS hl.1 (m_X4_cordOf l _ hTT hi (by decide) hI.pc) lk_L_15 hTT.n0 hfs_20 rfl rfl (Nat.le_of_ble_eq_true rfl) ⟨Nat.le_of_ble_eq_true rfl, Nat.le_of_ble_eq_true rfl⟩ rfl rfl ⟨Nat.zero_le _, Nat.zero_le _⟩ dL_change_20 (fun H locs hP hS => ?_)
  refine z_topi (y := cTold st iz) rfl ?_
  refine lv_istore (lv' := [(5, .int (cTold st iz)), (4, .int (nI jz)), (3, .int (nI iz)), (0, .ref (ad 0)), (1, .int xz), (2, .int yz)]) hx hb dL_change_23 hl (by decide) rfl (fun ls hl => ?_)
  refine lv_aload_n hx hb dL_change_25 rfl (lv_at hl 3 rfl) ?_
  refine lv_iload_n hx hb dL_change_26 rfl (lv_at hl 2 rfl) ?_
  refine lv_iconst (v := (nI 2)) hx hb dL_change_27 (by decide) ?_
  obtain ⟨fs_28, hfs_28⟩ := hTT.rc
  refine z_Vi_eq (As := [.int (nI iz), .int (nI 2)]) (rest := []) C0 hP hS hl.1 (m_X4_cordOf l _ hTT hi (by decide) hI.pc) lk_L_15 hTT.n0 hfs_28 rfl rfl (Nat.le_of_ble_eq_true rfl) ⟨Nat.le_of_ble_eq_true rfl, Nat.le_of_ble_eq_true rfl⟩ rfl rfl ⟨Nat.zero_le _, Nat.zero_le _⟩ dL_change_28 (fun H locs hP hS => ?_)
  refine z_topi (y := st (6 + 31 * iz + 1)) rfl ?_
  refine lv_istore (lv' := [(6, .int (st (6 + 31 * iz + 1))), (5, .int (cTold st iz)), (4, .int (nI jz)), (3, .int (nI iz)), (0, .ref (ad 0)), (1, .int xz), (2, .int yz)]) hx hb dL_change_31 hl (by decide) rfl (fun ls hl => ?_)
  refine lv_aload_n hx hb dL_change_33 rfl (lv_at hl 4 rfl) ?_
  refine lv_bipush (v := (nI 6)) hx hb dL_change_34 (by decide) ?_
  obtain ⟨fs_36, hfs_36⟩ := hTT.rc
  refine z_Vi_eq (As := [.int (nI 6)]) (rest := []) C0 hP hS hl.1 (m_X4_count l _ hTT (by decide) hI.pc) lk_L_20 hTT.n0 hfs_36 rfl rfl (Nat.le_of_ble_eq_true rfl) ⟨Nat.le_of_ble_eq_true rfl, Nat.le_of_ble_eq_true rfl⟩ rfl rfl ⟨Nat.zero_le _, Nat.zero_le _⟩ dL_change_36 (fun H locs hP hS => ?_)
  refine z_topi (y := st 4) rfl ?_
  refine lv_istore (lv' := [(7, .int (st 4)), (6, .int (st (6 + 31 * iz + 1))), (5, .int (cTold st iz)), (4, .int (nI jz)), (3, .int (nI iz)), (0, .ref (ad 0)), (1, .int xz), (2, .int yz)]) hx hb dL_change_39 hl (by decide) rfl (fun ls hl => ?_)
  refine lv_aload_n hx hb dL_change_41 rfl (lv_at hl 5 rfl) ?_
  refine lv_iconst (v := (nI 3)) hx hb dL_change_42 (by decide) ?_
  obtain ⟨fs_43, hfs_43⟩ := hTT.rc
  refine z_Vi_eq (As := [.int (nI 3)]) (rest := []) C0 hP hS hl.1 (m_X4_count l _ hTT (by decide) hI.pc) lk_L_20 hTT.n0 hfs_43 rfl rfl (Nat.le_of_ble_eq_true rfl) ⟨Nat.le_of_ble_eq_true rfl, Nat.le_of_ble_eq_true rfl⟩ rfl rfl ⟨Nat.zero_le _, Nat.zero_le _⟩ dL_change_43 (fun H locs hP hS => ?_)
  refine z_topi (y := st 1) rfl ?_
  refine lv_istore (lv' := [(8, .int (st 1)), (7, .int (st 4)), (6, .int (st (6 + 31 * iz + 1))), (5, .int (cTold st iz)), (4, .int (nI jz)), (3, .int (nI iz)), (0, .ref (ad 0)), (1, .int xz), (2, .int yz)]) hx hb dL_change_46 hl (by decide) rfl (fun ls hl => ?_)
  refine lv_iconst (v := 0) hx hb dL_change_48 (by decide) ?_
  refine lv_istore (lv' := [(9, .int 0), (8, .int (st 1)), (7, .int (st 4)), (6, .int (st (6 + 31 * iz + 1))), (5, .int (cTold st iz)), (4, .int (nI jz)), (3, .int (nI iz)), (0, .ref (ad 0)), (1, .int xz), (2, .int yz)]) hx hb dL_change_49 hl (by decide) rfl (fun ls hl => ?_)
  refine lv_iload_n hx hb dL_change_51 rfl (lv_at hl 8 rfl) ?_
  refine lv_bipush (v := (nI 16)) hx hb dL_change_52 (by decide) ?_
  obtain ⟨kz, hkz, ek⟩ := lowF_rng xz (n := 16) (by decide) (by decide)
  refine z_Si_eq (As := [.int xz, .int (nI 16)]) (rest := []) C0 hP hS hl.1 (m_L_low l _ (by decide) (by decide)) lk_L_9 rfl rfl (Nat.le_of_ble_eq_true rfl) ⟨Nat.le_of_ble_eq_true rfl, Nat.le_of_ble_eq_true rfl⟩ rfl rfl ⟨Nat.zero_le _, Nat.zero_le _⟩ dL_change_54 (fun H locs hP hS => ?_)
  refine z_topi (y := nI kz) ek ?_
  obtain rfl | rfl | rfl | rfl | rfl | rfl | rfl | rfl | rfl | rfl | rfl | rfl | rfl | rfl | rfl | rfl : kz = 0 ∨ kz = 1 ∨ kz = 2 ∨ kz = 3 ∨ kz = 4 ∨ kz = 5 ∨ kz = 6 ∨ kz = 7 ∨ kz = 8 ∨ kz = 9 ∨ kz = 10 ∨ kz = 11 ∨ kz = 12 ∨ kz = 13 ∨ kz = 14 ∨ kz = 15 := by omega
  · refine lv_tableIn (tgt := 132) hx hb dL_change_57 (by decide) (by decide) rfl (by decide) ?_
    refine lv_aload_n hx hb dL_change_132 rfl (lv_at hl 7 rfl) ?_
    refine lv_iload_n hx hb dL_change_133 rfl (lv_at hl 6 rfl) ?_
    refine lv_iload_n hx hb dL_change_134 rfl (lv_at hl 9 rfl) ?_
    refine lv_iconst (v := 3) hx hb dL_change_135 (by decide) ?_
    refine lv_ishr hx hb dL_change_136 ?_
    refine z_Si_ro (As := [.int (yz >>> (3 &&& 31))]) (rest := [.int (nI iz), .ref (ad 0)]) C0 hP hS hl.1 (m_L_number l _ ) lk_L_24 rfl rfl (Nat.le_of_ble_eq_true rfl) ⟨Nat.le_of_ble_eq_true rfl, Nat.le_of_ble_eq_true rfl⟩ rfl rfl ⟨Nat.zero_le _, Nat.zero_le _⟩ dL_change_137 (fun r_137 H locs hP hS h_137 => ?_)
    obtain ⟨vz, hv1, hv9, rfl⟩ := h_137
    have hnv := num_ok hv1 hv9
    refine z_Si_mo (As := [.ref (ad 0), .int (nI iz), .int (nI vz)]) (rest := []) C0 hP hS hl.1 (m_L_ties l _ hTT hi hnv.1 hnv.2 hI hnx hsz) lk_L_27 rfl rfl (Nat.le_of_ble_eq_true rfl) ⟨Nat.le_of_ble_eq_true rfl, Nat.le_of_ble_eq_true rfl⟩ rfl rfl ⟨Nat.zero_le _, Nat.zero_le _⟩ dL_change_140 (fun r_140 g_1 H locs hP hS hp => ?_)
    obtain ⟨hr_140, hTT, hF1⟩ := hp
    subst hr_140
    have hFr := hFr.tr (hF1.mono (by intro x9 hx9; first | (dsimp only [zOne, zRg, zCl] at hx9 ⊢; omega) | (dsimp only at hx9 ⊢; omega) | omega))
    have hI2 : pI tz (tieS st iz (nI vz)) := hI.ts hi (num_i hnv.1 hnv.2).1 (num_i hnv.1 hnv.2).2
    exact z_zret C0 hP hS hr rfl (⟨rfl, _, _, _, _, hTT, hI2.mono, Nat.mod_lt _ (by decide), Nat.min_le_right _ _, hFr⟩) dL_change_143
  · refine lv_tableIn (tgt := 132) hx hb dL_change_57 (by decide) (by decide) rfl (by decide) ?_
    refine lv_aload_n hx hb dL_change_132 rfl (lv_at hl 7 rfl) ?_
    refine lv_iload_n hx hb dL_change_133 rfl (lv_at hl 6 rfl) ?_
    refine lv_iload_n hx hb dL_change_134 rfl (lv_at hl 9 rfl) ?_
    refine lv_iconst (v := 3) hx hb dL_change_135 (by decide) ?_
    refine lv_ishr hx hb dL_change_136 ?_
    refine z_Si_ro (As := [.int (yz >>> (3 &&& 31))]) (rest := [.int (nI iz), .ref (ad 0)]) C0 hP hS hl.1 (m_L_number l _ ) lk_L_24 rfl rfl (Nat.le_of_ble_eq_true rfl) ⟨Nat.le_of_ble_eq_true rfl, Nat.le_of_ble_eq_true rfl⟩ rfl rfl ⟨Nat.zero_le _, Nat.zero_le _⟩ dL_change_137 (fun r_137 H locs hP hS h_137 => ?_)
    obtain ⟨vz, hv1, hv9, rfl⟩ := h_137
    have hnv := num_ok hv1 hv9
    refine z_Si_mo (As := [.ref (ad 0), .int (nI iz), .int (nI vz)]) (rest := []) C0 hP hS hl.1 (m_L_ties l _ hTT hi hnv.1 hnv.2 hI hnx hsz) lk_L_27 rfl rfl (Nat.le_of_ble_eq_true rfl) ⟨Nat.le_of_ble_eq_true rfl, Nat.le_of_ble_eq_true rfl⟩ rfl rfl ⟨Nat.zero_le _, Nat.zero_le _⟩ dL_change_140 (fun r_140 g_2 H locs hP hS hp => ?_)
    obtain ⟨hr_140, hTT, hF1⟩ := hp
    subst hr_140
    have hFr := hFr.tr (hF1.mono (by intro x9 hx9; first | (dsimp only [zOne, zRg, zCl] at hx9 ⊢; omega) | (dsimp only at hx9 ⊢; omega) | omega))
    have hI2 : pI tz (tieS st iz (nI vz)) := hI.ts hi (num_i hnv.1 hnv.2).1 (num_i hnv.1 hnv.2).2
    exact z_zret C0 hP hS hr rfl (⟨rfl, _, _, _, _, hTT, hI2.mono, Nat.mod_lt _ (by decide), Nat.min_le_right _ _, hFr⟩) dL_change_143
  · refine lv_tableIn (tgt := 132) hx hb dL_change_57 (by decide) (by decide) rfl (by decide) ?_
    refine lv_aload_n hx hb dL_change_132 rfl (lv_at hl 7 rfl) ?_
    refine lv_iload_n hx hb dL_change_133 rfl (lv_at hl 6 rfl) ?_
    refine lv_iload_n hx hb dL_change_134 rfl (lv_at hl 9 rfl) ?_
    refine lv_iconst (v := 3) hx hb dL_change_135 (by decide) ?_
    refine lv_ishr hx hb dL_change_136 ?_
    refine z_Si_ro (As := [.int (yz >>> (3 &&& 31))]) (rest := [.int (nI iz), .ref (ad 0)]) C0 hP hS hl.1 (m_L_number l _ ) lk_L_24 rfl rfl (Nat.le_of_ble_eq_true rfl) ⟨Nat.le_of_ble_eq_true rfl, Nat.le_of_ble_eq_true rfl⟩ rfl rfl ⟨Nat.zero_le _, Nat.zero_le _⟩ dL_change_137 (fun r_137 H locs hP hS h_137 => ?_)
    obtain ⟨vz, hv1, hv9, rfl⟩ := h_137
    have hnv := num_ok hv1 hv9
    refine z_Si_mo (As := [.ref (ad 0), .int (nI iz), .int (nI vz)]) (rest := []) C0 hP hS hl.1 (m_L_ties l _ hTT hi hnv.1 hnv.2 hI hnx hsz) lk_L_27 rfl rfl (Nat.le_of_ble_eq_true rfl) ⟨Nat.le_of_ble_eq_true rfl, Nat.le_of_ble_eq_true rfl⟩ rfl rfl ⟨Nat.zero_le _, Nat.zero_le _⟩ dL_change_140 (fun r_140 g_3 H locs hP hS hp => ?_)
    obtain ⟨hr_140, hTT, hF1⟩ := hp
    subst hr_140
    have hFr := hFr.tr (hF1.mono (by intro x9 hx9; first | (dsimp only [zOne, zRg, zCl] at hx9 ⊢; omega) | (dsimp only at hx9 ⊢; omega) | omega))
    have hI2 : pI tz (tieS st iz (nI vz)) := hI.ts hi (num_i hnv.1 hnv.2).1 (num_i hnv.1 hnv.2).2
    exact z_zret C0 hP hS hr rfl (⟨rfl, _, _, _, _, hTT, hI2.mono, Nat.mod_lt _ (by decide), Nat.min_le_right _ _, hFr⟩) dL_change_143
  · refine lv_tableIn (tgt := 132) hx hb dL_change_57 (by decide) (by decide) rfl (by decide) ?_
    refine lv_aload_n hx hb dL_change_132 rfl (lv_at hl 7 rfl) ?_
    refine lv_iload_n hx hb dL_change_133 rfl (lv_at hl 6 rfl) ?_
    refine lv_iload_n hx hb dL_change_134 rfl (lv_at hl 9 rfl) ?_
    refine lv_iconst (v := 3) hx hb dL_change_135 (by decide) ?_
    refine lv_ishr hx hb dL_change_136 ?_
    refine z_Si_ro (As := [.int (yz >>> (3 &&& 31))]) (rest := [.int (nI iz), .ref (ad 0)]) C0 hP hS hl.1 (m_L_number l _ ) lk_L_24 rfl rfl (Nat.le_of_ble_eq_true rfl) ⟨Nat.le_of_ble_eq_true rfl, Nat.le_of_ble_eq_true rfl⟩ rfl rfl ⟨Nat.zero_le _, Nat.zero_le _⟩ dL_change_137 (fun r_137 H locs hP hS h_137 => ?_)
    obtain ⟨vz, hv1, hv9, rfl⟩ := h_137
    have hnv := num_ok hv1 hv9
    refine z_Si_mo (As := [.ref (ad 0), .int (nI iz), .int (nI vz)]) (rest := []) C0 hP hS hl.1 (m_L_ties l _ hTT hi hnv.1 hnv.2 hI hnx hsz) lk_L_27 rfl rfl (Nat.le_of_ble_eq_true rfl) ⟨Nat.le_of_ble_eq_true rfl, Nat.le_of_ble_eq_true rfl⟩ rfl rfl ⟨Nat.zero_le _, Nat.zero_le _⟩ dL_change_140 (fun r_140 g_4 H locs hP hS hp => ?_)
    obtain ⟨hr_140, hTT, hF1⟩ := hp
    subst hr_140
    have hFr := hFr.tr (hF1.mono (by intro x9 hx9; first | (dsimp only [zOne, zRg, zCl] at hx9 ⊢; omega) | (dsimp only at hx9 ⊢; omega) | omega))
    have hI2 : pI tz (tieS st iz (nI vz)) := hI.ts hi (num_i hnv.1 hnv.2).1 (num_i hnv.1 hnv.2).2
    exact z_zret C0 hP hS hr rfl (⟨rfl, _, _, _, _, hTT, hI2.mono, Nat.mod_lt _ (by decide), Nat.min_le_right _ _, hFr⟩) dL_change_143
  · refine lv_tableIn (tgt := 132) hx hb dL_change_57 (by decide) (by decide) rfl (by decide) ?_
    refine lv_aload_n hx hb dL_change_132 rfl (lv_at hl 7 rfl) ?_
    refine lv_iload_n hx hb dL_change_133 rfl (lv_at hl 6 rfl) ?_
    refine lv_iload_n hx hb dL_change_134 rfl (lv_at hl 9 rfl) ?_
    refine lv_iconst (v := 3) hx hb dL_change_135 (by decide) ?_
    refine lv_ishr hx hb dL_change_136 ?_
    refine z_Si_ro (As := [.int (yz >>> (3 &&& 31))]) (rest := [.int (nI iz), .ref (ad 0)]) C0 hP hS hl.1 (m_L_number l _ ) lk_L_24 rfl rfl (Nat.le_of_ble_eq_true rfl) ⟨Nat.le_of_ble_eq_true rfl, Nat.le_of_ble_eq_true rfl⟩ rfl rfl ⟨Nat.zero_le _, Nat.zero_le _⟩ dL_change_137 (fun r_137 H locs hP hS h_137 => ?_)
    obtain ⟨vz, hv1, hv9, rfl⟩ := h_137
    have hnv := num_ok hv1 hv9
    refine z_Si_mo (As := [.ref (ad 0), .int (nI iz), .int (nI vz)]) (rest := []) C0 hP hS hl.1 (m_L_ties l _ hTT hi hnv.1 hnv.2 hI hnx hsz) lk_L_27 rfl rfl (Nat.le_of_ble_eq_true rfl) ⟨Nat.le_of_ble_eq_true rfl, Nat.le_of_ble_eq_true rfl⟩ rfl rfl ⟨Nat.zero_le _, Nat.zero_le _⟩ dL_change_140 (fun r_140 g_5 H locs hP hS hp => ?_)
    obtain ⟨hr_140, hTT, hF1⟩ := hp
    subst hr_140
    have hFr := hFr.tr (hF1.mono (by intro x9 hx9; first | (dsimp only [zOne, zRg, zCl] at hx9 ⊢; omega) | (dsimp only at hx9 ⊢; omega) | omega))
    have hI2 : pI tz (tieS st iz (nI vz)) := hI.ts hi (num_i hnv.1 hnv.2).1 (num_i hnv.1 hnv.2).2
    exact z_zret C0 hP hS hr rfl (⟨rfl, _, _, _, _, hTT, hI2.mono, Nat.mod_lt _ (by decide), Nat.min_le_right _ _, hFr⟩) dL_change_143
  · refine lv_tableIn (tgt := 132) hx hb dL_change_57 (by decide) (by decide) rfl (by decide) ?_
    refine lv_aload_n hx hb dL_change_132 rfl (lv_at hl 7 rfl) ?_
    refine lv_iload_n hx hb dL_change_133 rfl (lv_at hl 6 rfl) ?_
    refine lv_iload_n hx hb dL_change_134 rfl (lv_at hl 9 rfl) ?_
    refine lv_iconst (v := 3) hx hb dL_change_135 (by decide) ?_
    refine lv_ishr hx hb dL_change_136 ?_
    refine z_Si_ro (As := [.int (yz >>> (3 &&& 31))]) (rest := [.int (nI iz), .ref (ad 0)]) C0 hP hS hl.1 (m_L_number l _ ) lk_L_24 rfl rfl (Nat.le_of_ble_eq_true rfl) ⟨Nat.le_of_ble_eq_true rfl, Nat.le_of_ble_eq_true rfl⟩ rfl rfl ⟨Nat.zero_le _, Nat.zero_le _⟩ dL_change_137 (fun r_137 H locs hP hS h_137 => ?_)
    obtain ⟨vz, hv1, hv9, rfl⟩ := h_137
    have hnv := num_ok hv1 hv9
    refine z_Si_mo (As := [.ref (ad 0), .int (nI iz), .int (nI vz)]) (rest := []) C0 hP hS hl.1 (m_L_ties l _ hTT hi hnv.1 hnv.2 hI hnx hsz) lk_L_27 rfl rfl (Nat.le_of_ble_eq_true rfl) ⟨Nat.le_of_ble_eq_true rfl, Nat.le_of_ble_eq_true rfl⟩ rfl rfl ⟨Nat.zero_le _, Nat.zero_le _⟩ dL_change_140 (fun r_140 g_6 H locs hP hS hp => ?_)
    obtain ⟨hr_140, hTT, hF1⟩ := hp
    subst hr_140
    have hFr := hFr.tr (hF1.mono (by intro x9 hx9; first | (dsimp only [zOne, zRg, zCl] at hx9 ⊢; omega) | (dsimp only at hx9 ⊢; omega) | omega))
    have hI2 : pI tz (tieS st iz (nI vz)) := hI.ts hi (num_i hnv.1 hnv.2).1 (num_i hnv.1 hnv.2).2
    exact z_zret C0 hP hS hr rfl (⟨rfl, _, _, _, _, hTT, hI2.mono, Nat.mod_lt _ (by decide), Nat.min_le_right _ _, hFr⟩) dL_change_143
  · refine lv_tableIn (tgt := 144) hx hb dL_change_57 (by decide) (by decide) rfl (by decide) ?_
    refine lv_iload_n hx hb dL_change_144 rfl (lv_at hl 6 rfl) ?_
    refine lv_iload hx hb dL_change_145 (lv_at hl 5 rfl) ?_
    refine lv_icmp_ne (tgt := 152) hx hb dL_change_147 (by decide) (fun c_147 => ?_) (fun c_147 => ?_)
    · have hij : iz ≠ jz := fun q9 => c_147 (by rw [q9])
      refine lv_iload hx hb dL_change_152 (lv_at hl 4 rfl) ?_
      refine lv_if_ne (tgt := 161) hx hb dL_change_154 (by decide) (fun c_154 => ?_) (fun c_154 => ?_)
      · have ht1 := told_1 hI.1 hi c_154
        have hnb := num_b ht1.1 ht1.2
        refine lv_aload_n hx hb dL_change_161 rfl (lv_at hl 7 rfl) ?_
        refine lv_iload hx hb dL_change_162 (lv_at hl 5 rfl) ?_
        refine lv_iload hx hb dL_change_164 (lv_at hl 4 rfl) ?_
        obtain ⟨fs_166, hfs_166⟩ := hTT.rc
        refine z_Vi_eq (As := [.int (nI jz), .int (cTold st iz)]) (rest := []) C0 hP hS hl.1 (m_X4_whyNot l _ hTT hj hnb.1 hnb.2 hI.pc) lk_L_31 hTT.n0 hfs_166 rfl rfl (Nat.le_of_ble_eq_true rfl) ⟨Nat.le_of_ble_eq_true rfl, Nat.le_of_ble_eq_true rfl⟩ rfl rfl ⟨Nat.zero_le _, Nat.zero_le _⟩ dL_change_166 (fun H locs hP hS => ?_)
        by_cases hq : cRop st jz (cTold st iz) = 0
        · refine z_topi (y := 0) hq ?_
          refine lv_istore (lv' := [(9, .int 0), (8, .int (st 1)), (7, .int (st 4)), (6, .int (st (6 + 31 * iz + 1))), (5, .int (cTold st iz)), (4, .int (nI jz)), (3, .int (nI iz)), (0, .ref (ad 0)), (1, .int xz), (2, .int yz)]) hx hb dL_change_169 hl (by decide) rfl (fun ls hl => ?_)
          refine lv_aload_n hx hb dL_change_171 rfl (lv_at hl 7 rfl) ?_
          refine lv_iload hx hb dL_change_172 (lv_at hl 5 rfl) ?_
          refine lv_iconst (v := (nI 0)) hx hb dL_change_174 (by decide) ?_
          obtain ⟨fs_175, hfs_175⟩ := hTT.rc
          refine z_Vi_eq (As := [.int (nI jz), .int (nI 0)]) (rest := []) C0 hP hS hl.1 (m_X4_cordOf l _ hTT hj (by decide) hI.pc) lk_L_15 hTT.n0 hfs_175 rfl rfl (Nat.le_of_ble_eq_true rfl) ⟨Nat.le_of_ble_eq_true rfl, Nat.le_of_ble_eq_true rfl⟩ rfl rfl ⟨Nat.zero_le _, Nat.zero_le _⟩ dL_change_175 (fun H locs hP hS => ?_)
          refine z_topi (y := cTold st jz) rfl ?_
          refine lv_istore (lv' := [(10, .int (cTold st jz)), (9, .int 0), (8, .int (st 1)), (7, .int (st 4)), (6, .int (st (6 + 31 * iz + 1))), (5, .int (cTold st iz)), (4, .int (nI jz)), (3, .int (nI iz)), (0, .ref (ad 0)), (1, .int xz), (2, .int yz)]) hx hb dL_change_178 hl (by decide) rfl (fun ls hl => ?_)
          refine lv_aload_n hx hb dL_change_180 rfl (lv_at hl 8 rfl) ?_
          refine lv_iload_n hx hb dL_change_181 rfl (lv_at hl 7 rfl) ?_
          refine lv_iload hx hb dL_change_182 (lv_at hl 6 rfl) ?_
          obtain ⟨fs_184, hfs_184⟩ := hTT.rc
          refine z_Vi_mo (As := [.int (nI iz), .int (nI jz)]) (rest := []) C0 hP hS hl.1 (m_X4_add l _ hTT hi hj hij hI.pc hnx hsz) lk_L_34 hTT.n0 hfs_184 rfl rfl (Nat.le_of_ble_eq_true rfl) ⟨Nat.le_of_ble_eq_true rfl, Nat.le_of_ble_eq_true rfl⟩ rfl rfl ⟨Nat.zero_le _, Nat.zero_le _⟩ dL_change_184 (fun r_184 g_7 H locs hP hS hp => ?_)
          obtain ⟨hr_184, hTT, hF1⟩ := hp
          subst hr_184
          have hFr := hFr.tr (hF1.mono (by intro x9 hx9; first | (dsimp only [zOne, zRg, zCl] at hx9 ⊢; omega) | (dsimp only at hx9 ⊢; omega) | omega))
          have eA := ad_n c_154 hq
          rw [eA.1] at hTT
          have hI2 : pI tz (tieF st jz (cTold st iz)) := hI.tf hj hq ht1.1 ht1.2
          refine z_topi (y := 10 + sumN (mL (fK st jz) (fL st jz) (cTold st iz)) 6) eA.2 ?_
          refine lv_istore (lv' := [(11, .int (10 + sumN (mL (fK st jz) (fL st jz) (cTold st iz)) 6)), (10, .int (cTold st jz)), (9, .int 0), (8, .int (st 1)), (7, .int (st 4)), (6, .int (st (6 + 31 * iz + 1))), (5, .int (cTold st iz)), (4, .int (nI jz)), (3, .int (nI iz)), (0, .ref (ad 0)), (1, .int xz), (2, .int yz)]) hx hb dL_change_187 hl (by decide) rfl (fun ls hl => ?_)
          refine lv_iload hx hb dL_change_189 (lv_at hl 6 rfl) ?_
          refine lv_if_ne (tgt := 202) hx hb dL_change_191 (by decide) (fun c_191 => ?_) (fun c_191 => absurd c_191 c_154)
          refine lv_iload hx hb dL_change_202 (lv_at hl 2 rfl) ?_
          refine lv_if_le (tgt := 217) hx hb dL_change_204 (by decide) (fun c_204 => ?_) (fun c_204 => absurd c_204 (by decide))
          refine lv_iload hx hb dL_change_217 (lv_at hl 0 rfl) ?_
          refine lv_bipush (v := 10) hx hb dL_change_219 (by decide) ?_
          refine lv_aload_n hx hb dL_change_221 rfl (lv_at hl 9 rfl) ?_
          refine lv_iconst (v := (nI 3)) hx hb dL_change_222 (by decide) ?_
          obtain ⟨fs_223, hfs_223⟩ := hTT.rc
          refine z_Vi_eq (As := [.int (nI 3)]) (rest := [.int 10, .int (10 + sumN (mL (fK st jz) (fL st jz) (cTold st iz)) 6)]) C0 hP hS hl.1 (m_X4_count l _ hTT (by decide) hI2.pc) lk_L_20 hTT.n0 hfs_223 rfl rfl (Nat.le_of_ble_eq_true rfl) ⟨Nat.le_of_ble_eq_true rfl, Nat.le_of_ble_eq_true rfl⟩ rfl rfl ⟨Nat.zero_le _, Nat.zero_le _⟩ dL_change_223 (fun H locs hP hS => ?_)
          refine z_topi (y := st 1 + sumN (mL (fK st jz) (fL st jz) (cTold st iz)) 6) tieF_1 ?_
          refine lv_iadd hx hb dL_change_226 ?_
          refine lv_iload hx hb dL_change_227 (lv_at hl 3 rfl) ?_
          refine lv_isub hx hb dL_change_229 ?_
          refine lv_icmp_ne (tgt := 294) hx hb dL_change_230 (by decide) (fun c_230 => absurd (ad_l _ _) c_230) (fun c_230 => ?_)
          refine lv_aload_n hx hb dL_change_233 rfl (lv_at hl 9 rfl) ?_
          refine lv_iload_n hx hb dL_change_234 rfl (lv_at hl 8 rfl) ?_
          refine lv_iconst (v := (nI 0)) hx hb dL_change_235 (by decide) ?_
          obtain ⟨fs_236, hfs_236⟩ := hTT.rc
          refine z_Vi_eq (As := [.int (nI iz), .int (nI 0)]) (rest := []) C0 hP hS hl.1 (m_X4_cordOf l _ hTT hi (by decide) hI2.pc) lk_L_15 hTT.n0 hfs_236 rfl rfl (Nat.le_of_ble_eq_true rfl) ⟨Nat.le_of_ble_eq_true rfl, Nat.le_of_ble_eq_true rfl⟩ rfl rfl ⟨Nat.zero_le _, Nat.zero_le _⟩ dL_change_236 (fun H locs hP hS => ?_)
          refine z_topi (y := cTold st iz) ((tieF_oth hI.1 (rop_lt hq) hi hij).1) ?_
          refine lv_iload hx hb dL_change_239 (lv_at hl 6 rfl) ?_
          refine lv_icmp_ne (tgt := 294) hx hb dL_change_241 (by decide) (fun c_241 => absurd (rfl) c_241) (fun c_241 => ?_)
          refine lv_aload_n hx hb dL_change_244 rfl (lv_at hl 9 rfl) ?_
          refine lv_iload hx hb dL_change_245 (lv_at hl 7 rfl) ?_
          refine lv_iconst (v := (nI 0)) hx hb dL_change_247 (by decide) ?_
          obtain ⟨fs_248, hfs_248⟩ := hTT.rc
          refine z_Vi_eq (As := [.int (nI jz), .int (nI 0)]) (rest := []) C0 hP hS hl.1 (m_X4_cordOf l _ hTT hj (by decide) hI2.pc) lk_L_15 hTT.n0 hfs_248 rfl rfl (Nat.le_of_ble_eq_true rfl) ⟨Nat.le_of_ble_eq_true rfl, Nat.le_of_ble_eq_true rfl⟩ rfl rfl ⟨Nat.zero_le _, Nat.zero_le _⟩ dL_change_248 (fun H locs hP hS => ?_)
          refine z_topi (y := cTold st jz + cTold st iz) ((tieF_told hI.1 hj hq ht1.1 ht1.2).2) ?_
          refine lv_iload hx hb dL_change_251 (lv_at hl 1 rfl) ?_
          refine lv_iload hx hb dL_change_253 (lv_at hl 2 rfl) ?_
          refine lv_if_le (tgt := 262) hx hb dL_change_255 (by decide) (fun c_255 => ?_) (fun c_255 => absurd c_255 (by decide))
          refine lv_iload hx hb dL_change_262 (lv_at hl 6 rfl) ?_
          refine lv_iadd hx hb dL_change_264 ?_
          refine lv_icmp_ne (tgt := 294) hx hb dL_change_265 (by decide) (fun c_265 => absurd (rfl) c_265) (fun c_265 => ?_)
          refine lv_aload_n hx hb dL_change_268 rfl (lv_at hl 9 rfl) ?_
          refine lv_bipush (v := (nI 6)) hx hb dL_change_269 (by decide) ?_
          obtain ⟨fs_271, hfs_271⟩ := hTT.rc
          refine z_Vi_eq (As := [.int (nI 6)]) (rest := []) C0 hP hS hl.1 (m_X4_count l _ hTT (by decide) hI2.pc) lk_L_20 hTT.n0 hfs_271 rfl rfl (Nat.le_of_ble_eq_true rfl) ⟨Nat.le_of_ble_eq_true rfl, Nat.le_of_ble_eq_true rfl⟩ rfl rfl ⟨Nat.zero_le _, Nat.zero_le _⟩ dL_change_271 (fun H locs hP hS => ?_)
          refine z_topi (y := st 4) tieF_4 ?_
          refine lv_iload hx hb dL_change_274 (lv_at hl 4 rfl) ?_
          refine lv_iload hx hb dL_change_276 (lv_at hl 2 rfl) ?_
          refine lv_if_le (tgt := 285) hx hb dL_change_278 (by decide) (fun c_278 => ?_) (fun c_278 => absurd c_278 (by decide))
          refine lv_iconst (v := 0) hx hb dL_change_285 (by decide) ?_
          refine lv_iadd hx hb dL_change_286 ?_
          refine lv_icmp_ne (tgt := 294) hx hb dL_change_287 (by decide) (fun c_287 => absurd ((Int32.add_zero _).symm) c_287) (fun c_287 => ?_)
          refine lv_iconst (v := 1) hx hb dL_change_290 (by decide) ?_
          refine lv_goto (tgt := 295) hx hb dL_change_291 (by decide) ?_
          exact z_zret C0 hP hS hr rfl (⟨rfl, _, _, _, _, hTT, hI2.mono, Nat.mod_lt _ (by decide), Nat.min_le_right _ _, hFr⟩) dL_change_295
        · refine z_topi (y := cRop st jz (cTold st iz)) rfl ?_
          refine lv_istore (lv' := [(9, .int (cRop st jz (cTold st iz))), (8, .int (st 1)), (7, .int (st 4)), (6, .int (st (6 + 31 * iz + 1))), (5, .int (cTold st iz)), (4, .int (nI jz)), (3, .int (nI iz)), (0, .ref (ad 0)), (1, .int xz), (2, .int yz)]) hx hb dL_change_169 hl (by decide) rfl (fun ls hl => ?_)
          refine lv_aload_n hx hb dL_change_171 rfl (lv_at hl 7 rfl) ?_
          refine lv_iload hx hb dL_change_172 (lv_at hl 5 rfl) ?_
          refine lv_iconst (v := (nI 0)) hx hb dL_change_174 (by decide) ?_
          obtain ⟨fs_175, hfs_175⟩ := hTT.rc
          refine z_Vi_eq (As := [.int (nI jz), .int (nI 0)]) (rest := []) C0 hP hS hl.1 (m_X4_cordOf l _ hTT hj (by decide) hI.pc) lk_L_15 hTT.n0 hfs_175 rfl rfl (Nat.le_of_ble_eq_true rfl) ⟨Nat.le_of_ble_eq_true rfl, Nat.le_of_ble_eq_true rfl⟩ rfl rfl ⟨Nat.zero_le _, Nat.zero_le _⟩ dL_change_175 (fun H locs hP hS => ?_)
          refine z_topi (y := cTold st jz) rfl ?_
          refine lv_istore (lv' := [(10, .int (cTold st jz)), (9, .int (cRop st jz (cTold st iz))), (8, .int (st 1)), (7, .int (st 4)), (6, .int (st (6 + 31 * iz + 1))), (5, .int (cTold st iz)), (4, .int (nI jz)), (3, .int (nI iz)), (0, .ref (ad 0)), (1, .int xz), (2, .int yz)]) hx hb dL_change_178 hl (by decide) rfl (fun ls hl => ?_)
          refine lv_aload_n hx hb dL_change_180 rfl (lv_at hl 8 rfl) ?_
          refine lv_iload_n hx hb dL_change_181 rfl (lv_at hl 7 rfl) ?_
          refine lv_iload hx hb dL_change_182 (lv_at hl 6 rfl) ?_
          obtain ⟨fs_184, hfs_184⟩ := hTT.rc
          refine z_Vi_mo (As := [.int (nI iz), .int (nI jz)]) (rest := []) C0 hP hS hl.1 (m_X4_add l _ hTT hi hj hij hI.pc hnx hsz) lk_L_34 hTT.n0 hfs_184 rfl rfl (Nat.le_of_ble_eq_true rfl) ⟨Nat.le_of_ble_eq_true rfl, Nat.le_of_ble_eq_true rfl⟩ rfl rfl ⟨Nat.zero_le _, Nat.zero_le _⟩ dL_change_184 (fun r_184 g_8 H locs hP hS hp => ?_)
          obtain ⟨hr_184, hTT, hF1⟩ := hp
          subst hr_184
          have hFr := hFr.tr (hF1.mono (by intro x9 hx9; first | (dsimp only [zOne, zRg, zCl] at hx9 ⊢; omega) | (dsimp only at hx9 ⊢; omega) | omega))
          have eA := ad_r c_154 hq
          rw [eA.1] at hTT
          have hI2 : pI tz (upd st 4 (st 4 + 1)) := hI.u4 _
          refine z_topi (y := cRop st jz (cTold st iz)) eA.2 ?_
          refine lv_istore (lv' := [(11, .int (cRop st jz (cTold st iz))), (10, .int (cTold st jz)), (9, .int (cRop st jz (cTold st iz))), (8, .int (st 1)), (7, .int (st 4)), (6, .int (st (6 + 31 * iz + 1))), (5, .int (cTold st iz)), (4, .int (nI jz)), (3, .int (nI iz)), (0, .ref (ad 0)), (1, .int xz), (2, .int yz)]) hx hb dL_change_187 hl (by decide) rfl (fun ls hl => ?_)
          refine lv_iload hx hb dL_change_189 (lv_at hl 6 rfl) ?_
          refine lv_if_ne (tgt := 202) hx hb dL_change_191 (by decide) (fun c_191 => ?_) (fun c_191 => absurd c_191 c_154)
          refine lv_iload hx hb dL_change_202 (lv_at hl 2 rfl) ?_
          refine lv_if_le (tgt := 217) hx hb dL_change_204 (by decide) (fun c_204 => absurd c_204 (rop_nle hq)) (fun c_204 => ?_)
          refine lv_iload hx hb dL_change_207 (lv_at hl 0 rfl) ?_
          refine lv_iload hx hb dL_change_209 (lv_at hl 2 rfl) ?_
          refine lv_icmp_ne (tgt := 294) hx hb dL_change_211 (by decide) (fun c_211 => absurd (rfl) c_211) (fun c_211 => ?_)
          refine lv_goto (tgt := 233) hx hb dL_change_214 (by decide) ?_
          refine lv_aload_n hx hb dL_change_233 rfl (lv_at hl 9 rfl) ?_
          refine lv_iload_n hx hb dL_change_234 rfl (lv_at hl 8 rfl) ?_
          refine lv_iconst (v := (nI 0)) hx hb dL_change_235 (by decide) ?_
          obtain ⟨fs_236, hfs_236⟩ := hTT.rc
          refine z_Vi_eq (As := [.int (nI iz), .int (nI 0)]) (rest := []) C0 hP hS hl.1 (m_X4_cordOf l _ hTT hi (by decide) hI2.pc) lk_L_15 hTT.n0 hfs_236 rfl rfl (Nat.le_of_ble_eq_true rfl) ⟨Nat.le_of_ble_eq_true rfl, Nat.le_of_ble_eq_true rfl⟩ rfl rfl ⟨Nat.zero_le _, Nat.zero_le _⟩ dL_change_236 (fun H locs hP hS => ?_)
          refine z_topi (y := cTold st iz) (u4_told hI.1 hi _) ?_
          refine lv_iload hx hb dL_change_239 (lv_at hl 6 rfl) ?_
          refine lv_icmp_ne (tgt := 294) hx hb dL_change_241 (by decide) (fun c_241 => absurd (rfl) c_241) (fun c_241 => ?_)
          refine lv_aload_n hx hb dL_change_244 rfl (lv_at hl 9 rfl) ?_
          refine lv_iload hx hb dL_change_245 (lv_at hl 7 rfl) ?_
          refine lv_iconst (v := (nI 0)) hx hb dL_change_247 (by decide) ?_
          obtain ⟨fs_248, hfs_248⟩ := hTT.rc
          refine z_Vi_eq (As := [.int (nI jz), .int (nI 0)]) (rest := []) C0 hP hS hl.1 (m_X4_cordOf l _ hTT hj (by decide) hI2.pc) lk_L_15 hTT.n0 hfs_248 rfl rfl (Nat.le_of_ble_eq_true rfl) ⟨Nat.le_of_ble_eq_true rfl, Nat.le_of_ble_eq_true rfl⟩ rfl rfl ⟨Nat.zero_le _, Nat.zero_le _⟩ dL_change_248 (fun H locs hP hS => ?_)
          refine z_topi (y := cTold st jz) (u4_told hI.1 hj _) ?_
          refine lv_iload hx hb dL_change_251 (lv_at hl 1 rfl) ?_
          refine lv_iload hx hb dL_change_253 (lv_at hl 2 rfl) ?_
          refine lv_if_le (tgt := 262) hx hb dL_change_255 (by decide) (fun c_255 => absurd c_255 (rop_nle hq)) (fun c_255 => ?_)
          refine lv_iconst (v := 0) hx hb dL_change_258 (by decide) ?_
          refine lv_goto (tgt := 264) hx hb dL_change_259 (by decide) ?_
          refine lv_iadd hx hb dL_change_264 ?_
          refine lv_icmp_ne (tgt := 294) hx hb dL_change_265 (by decide) (fun c_265 => absurd ((Int32.add_zero _).symm) c_265) (fun c_265 => ?_)
          refine lv_aload_n hx hb dL_change_268 rfl (lv_at hl 9 rfl) ?_
          refine lv_bipush (v := (nI 6)) hx hb dL_change_269 (by decide) ?_
          obtain ⟨fs_271, hfs_271⟩ := hTT.rc
          refine z_Vi_eq (As := [.int (nI 6)]) (rest := []) C0 hP hS hl.1 (m_X4_count l _ hTT (by decide) hI2.pc) lk_L_20 hTT.n0 hfs_271 rfl rfl (Nat.le_of_ble_eq_true rfl) ⟨Nat.le_of_ble_eq_true rfl, Nat.le_of_ble_eq_true rfl⟩ rfl rfl ⟨Nat.zero_le _, Nat.zero_le _⟩ dL_change_271 (fun H locs hP hS => ?_)
          refine z_topi (y := st 4 + 1) upd4_4 ?_
          refine lv_iload hx hb dL_change_274 (lv_at hl 4 rfl) ?_
          refine lv_iload hx hb dL_change_276 (lv_at hl 2 rfl) ?_
          refine lv_if_le (tgt := 285) hx hb dL_change_278 (by decide) (fun c_278 => absurd c_278 (rop_nle hq)) (fun c_278 => ?_)
          refine lv_iconst (v := 1) hx hb dL_change_281 (by decide) ?_
          refine lv_goto (tgt := 286) hx hb dL_change_282 (by decide) ?_
          refine lv_iadd hx hb dL_change_286 ?_
          refine lv_icmp_ne (tgt := 294) hx hb dL_change_287 (by decide) (fun c_287 => absurd (rfl) c_287) (fun c_287 => ?_)
          refine lv_iconst (v := 1) hx hb dL_change_290 (by decide) ?_
          refine lv_goto (tgt := 295) hx hb dL_change_291 (by decide) ?_
          exact z_zret C0 hP hS hr rfl (⟨rfl, _, _, _, _, hTT, hI2.mono, Nat.mod_lt _ (by decide), Nat.min_le_right _ _, hFr⟩) dL_change_295
      · refine lv_iconst (v := 0) hx hb dL_change_157 (by decide) ?_
        refine lv_goto (tgt := 169) hx hb dL_change_158 (by decide) ?_
        refine z_topi (y := 0) rfl ?_
        refine lv_istore (lv' := [(9, .int 0), (8, .int (st 1)), (7, .int (st 4)), (6, .int (st (6 + 31 * iz + 1))), (5, .int (cTold st iz)), (4, .int (nI jz)), (3, .int (nI iz)), (0, .ref (ad 0)), (1, .int xz), (2, .int yz)]) hx hb dL_change_169 hl (by decide) rfl (fun ls hl => ?_)
        refine lv_aload_n hx hb dL_change_171 rfl (lv_at hl 7 rfl) ?_
        refine lv_iload hx hb dL_change_172 (lv_at hl 5 rfl) ?_
        refine lv_iconst (v := (nI 0)) hx hb dL_change_174 (by decide) ?_
        obtain ⟨fs_175, hfs_175⟩ := hTT.rc
        refine z_Vi_eq (As := [.int (nI jz), .int (nI 0)]) (rest := []) C0 hP hS hl.1 (m_X4_cordOf l _ hTT hj (by decide) hI.pc) lk_L_15 hTT.n0 hfs_175 rfl rfl (Nat.le_of_ble_eq_true rfl) ⟨Nat.le_of_ble_eq_true rfl, Nat.le_of_ble_eq_true rfl⟩ rfl rfl ⟨Nat.zero_le _, Nat.zero_le _⟩ dL_change_175 (fun H locs hP hS => ?_)
        refine z_topi (y := cTold st jz) rfl ?_
        refine lv_istore (lv' := [(10, .int (cTold st jz)), (9, .int 0), (8, .int (st 1)), (7, .int (st 4)), (6, .int (st (6 + 31 * iz + 1))), (5, .int (cTold st iz)), (4, .int (nI jz)), (3, .int (nI iz)), (0, .ref (ad 0)), (1, .int xz), (2, .int yz)]) hx hb dL_change_178 hl (by decide) rfl (fun ls hl => ?_)
        refine lv_aload_n hx hb dL_change_180 rfl (lv_at hl 8 rfl) ?_
        refine lv_iload_n hx hb dL_change_181 rfl (lv_at hl 7 rfl) ?_
        refine lv_iload hx hb dL_change_182 (lv_at hl 6 rfl) ?_
        obtain ⟨fs_184, hfs_184⟩ := hTT.rc
        refine z_Vi_mo (As := [.int (nI iz), .int (nI jz)]) (rest := []) C0 hP hS hl.1 (m_X4_add l _ hTT hi hj hij hI.pc hnx hsz) lk_L_34 hTT.n0 hfs_184 rfl rfl (Nat.le_of_ble_eq_true rfl) ⟨Nat.le_of_ble_eq_true rfl, Nat.le_of_ble_eq_true rfl⟩ rfl rfl ⟨Nat.zero_le _, Nat.zero_le _⟩ dL_change_184 (fun r_184 g_9 H locs hP hS hp => ?_)
        obtain ⟨hr_184, hTT, hF1⟩ := hp
        subst hr_184
        have hFr := hFr.tr (hF1.mono (by intro x9 hx9; first | (dsimp only [zOne, zRg, zCl] at hx9 ⊢; omega) | (dsimp only at hx9 ⊢; omega) | omega))
        have eA := ad_0 (j := jz) c_154
        rw [eA.1] at hTT
        have hI2 : pI tz st := hI
        refine z_topi (y := 0) eA.2 ?_
        refine lv_istore (lv' := [(11, .int 0), (10, .int (cTold st jz)), (9, .int 0), (8, .int (st 1)), (7, .int (st 4)), (6, .int (st (6 + 31 * iz + 1))), (5, .int (cTold st iz)), (4, .int (nI jz)), (3, .int (nI iz)), (0, .ref (ad 0)), (1, .int xz), (2, .int yz)]) hx hb dL_change_187 hl (by decide) rfl (fun ls hl => ?_)
        refine lv_iload hx hb dL_change_189 (lv_at hl 6 rfl) ?_
        refine lv_if_ne (tgt := 202) hx hb dL_change_191 (by decide) (fun c_191 => absurd c_154 c_191) (fun c_191 => ?_)
        refine lv_iload hx hb dL_change_194 (lv_at hl 0 rfl) ?_
        refine lv_if_ne (tgt := 294) hx hb dL_change_196 (by decide) (fun c_196 => absurd c_196 (by decide)) (fun c_196 => ?_)
        refine lv_goto (tgt := 233) hx hb dL_change_199 (by decide) ?_
        refine lv_aload_n hx hb dL_change_233 rfl (lv_at hl 9 rfl) ?_
        refine lv_iload_n hx hb dL_change_234 rfl (lv_at hl 8 rfl) ?_
        refine lv_iconst (v := (nI 0)) hx hb dL_change_235 (by decide) ?_
        obtain ⟨fs_236, hfs_236⟩ := hTT.rc
        refine z_Vi_eq (As := [.int (nI iz), .int (nI 0)]) (rest := []) C0 hP hS hl.1 (m_X4_cordOf l _ hTT hi (by decide) hI2.pc) lk_L_15 hTT.n0 hfs_236 rfl rfl (Nat.le_of_ble_eq_true rfl) ⟨Nat.le_of_ble_eq_true rfl, Nat.le_of_ble_eq_true rfl⟩ rfl rfl ⟨Nat.zero_le _, Nat.zero_le _⟩ dL_change_236 (fun H locs hP hS => ?_)
        refine z_topi (y := cTold st iz) rfl ?_
        refine lv_iload hx hb dL_change_239 (lv_at hl 6 rfl) ?_
        refine lv_icmp_ne (tgt := 294) hx hb dL_change_241 (by decide) (fun c_241 => absurd (rfl) c_241) (fun c_241 => ?_)
        refine lv_aload_n hx hb dL_change_244 rfl (lv_at hl 9 rfl) ?_
        refine lv_iload hx hb dL_change_245 (lv_at hl 7 rfl) ?_
        refine lv_iconst (v := (nI 0)) hx hb dL_change_247 (by decide) ?_
        obtain ⟨fs_248, hfs_248⟩ := hTT.rc
        refine z_Vi_eq (As := [.int (nI jz), .int (nI 0)]) (rest := []) C0 hP hS hl.1 (m_X4_cordOf l _ hTT hj (by decide) hI2.pc) lk_L_15 hTT.n0 hfs_248 rfl rfl (Nat.le_of_ble_eq_true rfl) ⟨Nat.le_of_ble_eq_true rfl, Nat.le_of_ble_eq_true rfl⟩ rfl rfl ⟨Nat.zero_le _, Nat.zero_le _⟩ dL_change_248 (fun H locs hP hS => ?_)
        refine z_topi (y := cTold st jz) rfl ?_
        refine lv_iload hx hb dL_change_251 (lv_at hl 1 rfl) ?_
        refine lv_iload hx hb dL_change_253 (lv_at hl 2 rfl) ?_
        refine lv_if_le (tgt := 262) hx hb dL_change_255 (by decide) (fun c_255 => ?_) (fun c_255 => absurd c_255 (by decide))
        refine lv_iload hx hb dL_change_262 (lv_at hl 6 rfl) ?_
        refine lv_iadd hx hb dL_change_264 ?_
        refine lv_icmp_ne (tgt := 294) hx hb dL_change_265 (by decide) (fun c_265 => absurd (by rw [c_154]; exact (Int32.add_zero _).symm) c_265) (fun c_265 => ?_)
        refine lv_aload_n hx hb dL_change_268 rfl (lv_at hl 9 rfl) ?_
        refine lv_bipush (v := (nI 6)) hx hb dL_change_269 (by decide) ?_
        obtain ⟨fs_271, hfs_271⟩ := hTT.rc
        refine z_Vi_eq (As := [.int (nI 6)]) (rest := []) C0 hP hS hl.1 (m_X4_count l _ hTT (by decide) hI2.pc) lk_L_20 hTT.n0 hfs_271 rfl rfl (Nat.le_of_ble_eq_true rfl) ⟨Nat.le_of_ble_eq_true rfl, Nat.le_of_ble_eq_true rfl⟩ rfl rfl ⟨Nat.zero_le _, Nat.zero_le _⟩ dL_change_271 (fun H locs hP hS => ?_)
        refine z_topi (y := st 4) rfl ?_
        refine lv_iload hx hb dL_change_274 (lv_at hl 4 rfl) ?_
        refine lv_iload hx hb dL_change_276 (lv_at hl 2 rfl) ?_
        refine lv_if_le (tgt := 285) hx hb dL_change_278 (by decide) (fun c_278 => ?_) (fun c_278 => absurd c_278 (by decide))
        refine lv_iconst (v := 0) hx hb dL_change_285 (by decide) ?_
        refine lv_iadd hx hb dL_change_286 ?_
        refine lv_icmp_ne (tgt := 294) hx hb dL_change_287 (by decide) (fun c_287 => absurd ((Int32.add_zero _).symm) c_287) (fun c_287 => ?_)
        refine lv_iconst (v := 1) hx hb dL_change_290 (by decide) ?_
        refine lv_goto (tgt := 295) hx hb dL_change_291 (by decide) ?_
        exact z_zret C0 hP hS hr rfl (⟨rfl, _, _, _, _, hTT, hI2.mono, Nat.mod_lt _ (by decide), Nat.min_le_right _ _, hFr⟩) dL_change_295
    · refine lv_iconst (v := 1) hx hb dL_change_150 (by decide) ?_
      exact z_zret C0 hP hS hr rfl (⟨rfl, _, _, _, _, hTT, hI.mono, hnx, hsz, hFr⟩) dL_change_151
  · refine lv_tableIn (tgt := 144) hx hb dL_change_57 (by decide) (by decide) rfl (by decide) ?_
    refine lv_iload_n hx hb dL_change_144 rfl (lv_at hl 6 rfl) ?_
    refine lv_iload hx hb dL_change_145 (lv_at hl 5 rfl) ?_
    refine lv_icmp_ne (tgt := 152) hx hb dL_change_147 (by decide) (fun c_147 => ?_) (fun c_147 => ?_)
    · have hij : iz ≠ jz := fun q9 => c_147 (by rw [q9])
      refine lv_iload hx hb dL_change_152 (lv_at hl 4 rfl) ?_
      refine lv_if_ne (tgt := 161) hx hb dL_change_154 (by decide) (fun c_154 => ?_) (fun c_154 => ?_)
      · have ht1 := told_1 hI.1 hi c_154
        have hnb := num_b ht1.1 ht1.2
        refine lv_aload_n hx hb dL_change_161 rfl (lv_at hl 7 rfl) ?_
        refine lv_iload hx hb dL_change_162 (lv_at hl 5 rfl) ?_
        refine lv_iload hx hb dL_change_164 (lv_at hl 4 rfl) ?_
        obtain ⟨fs_166, hfs_166⟩ := hTT.rc
        refine z_Vi_eq (As := [.int (nI jz), .int (cTold st iz)]) (rest := []) C0 hP hS hl.1 (m_X4_whyNot l _ hTT hj hnb.1 hnb.2 hI.pc) lk_L_31 hTT.n0 hfs_166 rfl rfl (Nat.le_of_ble_eq_true rfl) ⟨Nat.le_of_ble_eq_true rfl, Nat.le_of_ble_eq_true rfl⟩ rfl rfl ⟨Nat.zero_le _, Nat.zero_le _⟩ dL_change_166 (fun H locs hP hS => ?_)
        by_cases hq : cRop st jz (cTold st iz) = 0
        · refine z_topi (y := 0) hq ?_
          refine lv_istore (lv' := [(9, .int 0), (8, .int (st 1)), (7, .int (st 4)), (6, .int (st (6 + 31 * iz + 1))), (5, .int (cTold st iz)), (4, .int (nI jz)), (3, .int (nI iz)), (0, .ref (ad 0)), (1, .int xz), (2, .int yz)]) hx hb dL_change_169 hl (by decide) rfl (fun ls hl => ?_)
          refine lv_aload_n hx hb dL_change_171 rfl (lv_at hl 7 rfl) ?_
          refine lv_iload hx hb dL_change_172 (lv_at hl 5 rfl) ?_
          refine lv_iconst (v := (nI 0)) hx hb dL_change_174 (by decide) ?_
          obtain ⟨fs_175, hfs_175⟩ := hTT.rc
          refine z_Vi_eq (As := [.int (nI jz), .int (nI 0)]) (rest := []) C0 hP hS hl.1 (m_X4_cordOf l _ hTT hj (by decide) hI.pc) lk_L_15 hTT.n0 hfs_175 rfl rfl (Nat.le_of_ble_eq_true rfl) ⟨Nat.le_of_ble_eq_true rfl, Nat.le_of_ble_eq_true rfl⟩ rfl rfl ⟨Nat.zero_le _, Nat.zero_le _⟩ dL_change_175 (fun H locs hP hS => ?_)
          refine z_topi (y := cTold st jz) rfl ?_
          refine lv_istore (lv' := [(10, .int (cTold st jz)), (9, .int 0), (8, .int (st 1)), (7, .int (st 4)), (6, .int (st (6 + 31 * iz + 1))), (5, .int (cTold st iz)), (4, .int (nI jz)), (3, .int (nI iz)), (0, .ref (ad 0)), (1, .int xz), (2, .int yz)]) hx hb dL_change_178 hl (by decide) rfl (fun ls hl => ?_)
          refine lv_aload_n hx hb dL_change_180 rfl (lv_at hl 8 rfl) ?_
          refine lv_iload_n hx hb dL_change_181 rfl (lv_at hl 7 rfl) ?_
          refine lv_iload hx hb dL_change_182 (lv_at hl 6 rfl) ?_
          obtain ⟨fs_184, hfs_184⟩ := hTT.rc
          refine z_Vi_mo (As := [.int (nI iz), .int (nI jz)]) (rest := []) C0 hP hS hl.1 (m_X4_add l _ hTT hi hj hij hI.pc hnx hsz) lk_L_34 hTT.n0 hfs_184 rfl rfl (Nat.le_of_ble_eq_true rfl) ⟨Nat.le_of_ble_eq_true rfl, Nat.le_of_ble_eq_true rfl⟩ rfl rfl ⟨Nat.zero_le _, Nat.zero_le _⟩ dL_change_184 (fun r_184 g_10 H locs hP hS hp => ?_)
          obtain ⟨hr_184, hTT, hF1⟩ := hp
          subst hr_184
          have hFr := hFr.tr (hF1.mono (by intro x9 hx9; first | (dsimp only [zOne, zRg, zCl] at hx9 ⊢; omega) | (dsimp only at hx9 ⊢; omega) | omega))
          have eA := ad_n c_154 hq
          rw [eA.1] at hTT
          have hI2 : pI tz (tieF st jz (cTold st iz)) := hI.tf hj hq ht1.1 ht1.2
          refine z_topi (y := 10 + sumN (mL (fK st jz) (fL st jz) (cTold st iz)) 6) eA.2 ?_
          refine lv_istore (lv' := [(11, .int (10 + sumN (mL (fK st jz) (fL st jz) (cTold st iz)) 6)), (10, .int (cTold st jz)), (9, .int 0), (8, .int (st 1)), (7, .int (st 4)), (6, .int (st (6 + 31 * iz + 1))), (5, .int (cTold st iz)), (4, .int (nI jz)), (3, .int (nI iz)), (0, .ref (ad 0)), (1, .int xz), (2, .int yz)]) hx hb dL_change_187 hl (by decide) rfl (fun ls hl => ?_)
          refine lv_iload hx hb dL_change_189 (lv_at hl 6 rfl) ?_
          refine lv_if_ne (tgt := 202) hx hb dL_change_191 (by decide) (fun c_191 => ?_) (fun c_191 => absurd c_191 c_154)
          refine lv_iload hx hb dL_change_202 (lv_at hl 2 rfl) ?_
          refine lv_if_le (tgt := 217) hx hb dL_change_204 (by decide) (fun c_204 => ?_) (fun c_204 => absurd c_204 (by decide))
          refine lv_iload hx hb dL_change_217 (lv_at hl 0 rfl) ?_
          refine lv_bipush (v := 10) hx hb dL_change_219 (by decide) ?_
          refine lv_aload_n hx hb dL_change_221 rfl (lv_at hl 9 rfl) ?_
          refine lv_iconst (v := (nI 3)) hx hb dL_change_222 (by decide) ?_
          obtain ⟨fs_223, hfs_223⟩ := hTT.rc
          refine z_Vi_eq (As := [.int (nI 3)]) (rest := [.int 10, .int (10 + sumN (mL (fK st jz) (fL st jz) (cTold st iz)) 6)]) C0 hP hS hl.1 (m_X4_count l _ hTT (by decide) hI2.pc) lk_L_20 hTT.n0 hfs_223 rfl rfl (Nat.le_of_ble_eq_true rfl) ⟨Nat.le_of_ble_eq_true rfl, Nat.le_of_ble_eq_true rfl⟩ rfl rfl ⟨Nat.zero_le _, Nat.zero_le _⟩ dL_change_223 (fun H locs hP hS => ?_)
          refine z_topi (y := st 1 + sumN (mL (fK st jz) (fL st jz) (cTold st iz)) 6) tieF_1 ?_
          refine lv_iadd hx hb dL_change_226 ?_
          refine lv_iload hx hb dL_change_227 (lv_at hl 3 rfl) ?_
          refine lv_isub hx hb dL_change_229 ?_
          refine lv_icmp_ne (tgt := 294) hx hb dL_change_230 (by decide) (fun c_230 => absurd (ad_l _ _) c_230) (fun c_230 => ?_)
          refine lv_aload_n hx hb dL_change_233 rfl (lv_at hl 9 rfl) ?_
          refine lv_iload_n hx hb dL_change_234 rfl (lv_at hl 8 rfl) ?_
          refine lv_iconst (v := (nI 0)) hx hb dL_change_235 (by decide) ?_
          obtain ⟨fs_236, hfs_236⟩ := hTT.rc
          refine z_Vi_eq (As := [.int (nI iz), .int (nI 0)]) (rest := []) C0 hP hS hl.1 (m_X4_cordOf l _ hTT hi (by decide) hI2.pc) lk_L_15 hTT.n0 hfs_236 rfl rfl (Nat.le_of_ble_eq_true rfl) ⟨Nat.le_of_ble_eq_true rfl, Nat.le_of_ble_eq_true rfl⟩ rfl rfl ⟨Nat.zero_le _, Nat.zero_le _⟩ dL_change_236 (fun H locs hP hS => ?_)
          refine z_topi (y := cTold st iz) ((tieF_oth hI.1 (rop_lt hq) hi hij).1) ?_
          refine lv_iload hx hb dL_change_239 (lv_at hl 6 rfl) ?_
          refine lv_icmp_ne (tgt := 294) hx hb dL_change_241 (by decide) (fun c_241 => absurd (rfl) c_241) (fun c_241 => ?_)
          refine lv_aload_n hx hb dL_change_244 rfl (lv_at hl 9 rfl) ?_
          refine lv_iload hx hb dL_change_245 (lv_at hl 7 rfl) ?_
          refine lv_iconst (v := (nI 0)) hx hb dL_change_247 (by decide) ?_
          obtain ⟨fs_248, hfs_248⟩ := hTT.rc
          refine z_Vi_eq (As := [.int (nI jz), .int (nI 0)]) (rest := []) C0 hP hS hl.1 (m_X4_cordOf l _ hTT hj (by decide) hI2.pc) lk_L_15 hTT.n0 hfs_248 rfl rfl (Nat.le_of_ble_eq_true rfl) ⟨Nat.le_of_ble_eq_true rfl, Nat.le_of_ble_eq_true rfl⟩ rfl rfl ⟨Nat.zero_le _, Nat.zero_le _⟩ dL_change_248 (fun H locs hP hS => ?_)
          refine z_topi (y := cTold st jz + cTold st iz) ((tieF_told hI.1 hj hq ht1.1 ht1.2).2) ?_
          refine lv_iload hx hb dL_change_251 (lv_at hl 1 rfl) ?_
          refine lv_iload hx hb dL_change_253 (lv_at hl 2 rfl) ?_
          refine lv_if_le (tgt := 262) hx hb dL_change_255 (by decide) (fun c_255 => ?_) (fun c_255 => absurd c_255 (by decide))
          refine lv_iload hx hb dL_change_262 (lv_at hl 6 rfl) ?_
          refine lv_iadd hx hb dL_change_264 ?_
          refine lv_icmp_ne (tgt := 294) hx hb dL_change_265 (by decide) (fun c_265 => absurd (rfl) c_265) (fun c_265 => ?_)
          refine lv_aload_n hx hb dL_change_268 rfl (lv_at hl 9 rfl) ?_
          refine lv_bipush (v := (nI 6)) hx hb dL_change_269 (by decide) ?_
          obtain ⟨fs_271, hfs_271⟩ := hTT.rc
          refine z_Vi_eq (As := [.int (nI 6)]) (rest := []) C0 hP hS hl.1 (m_X4_count l _ hTT (by decide) hI2.pc) lk_L_20 hTT.n0 hfs_271 rfl rfl (Nat.le_of_ble_eq_true rfl) ⟨Nat.le_of_ble_eq_true rfl, Nat.le_of_ble_eq_true rfl⟩ rfl rfl ⟨Nat.zero_le _, Nat.zero_le _⟩ dL_change_271 (fun H locs hP hS => ?_)
          refine z_topi (y := st 4) tieF_4 ?_
          refine lv_iload hx hb dL_change_274 (lv_at hl 4 rfl) ?_
          refine lv_iload hx hb dL_change_276 (lv_at hl 2 rfl) ?_
          refine lv_if_le (tgt := 285) hx hb dL_change_278 (by decide) (fun c_278 => ?_) (fun c_278 => absurd c_278 (by decide))
          refine lv_iconst (v := 0) hx hb dL_change_285 (by decide) ?_
          refine lv_iadd hx hb dL_change_286 ?_
          refine lv_icmp_ne (tgt := 294) hx hb dL_change_287 (by decide) (fun c_287 => absurd ((Int32.add_zero _).symm) c_287) (fun c_287 => ?_)
          refine lv_iconst (v := 1) hx hb dL_change_290 (by decide) ?_
          refine lv_goto (tgt := 295) hx hb dL_change_291 (by decide) ?_
          exact z_zret C0 hP hS hr rfl (⟨rfl, _, _, _, _, hTT, hI2.mono, Nat.mod_lt _ (by decide), Nat.min_le_right _ _, hFr⟩) dL_change_295
        · refine z_topi (y := cRop st jz (cTold st iz)) rfl ?_
          refine lv_istore (lv' := [(9, .int (cRop st jz (cTold st iz))), (8, .int (st 1)), (7, .int (st 4)), (6, .int (st (6 + 31 * iz + 1))), (5, .int (cTold st iz)), (4, .int (nI jz)), (3, .int (nI iz)), (0, .ref (ad 0)), (1, .int xz), (2, .int yz)]) hx hb dL_change_169 hl (by decide) rfl (fun ls hl => ?_)
          refine lv_aload_n hx hb dL_change_171 rfl (lv_at hl 7 rfl) ?_
          refine lv_iload hx hb dL_change_172 (lv_at hl 5 rfl) ?_
          refine lv_iconst (v := (nI 0)) hx hb dL_change_174 (by decide) ?_
          obtain ⟨fs_175, hfs_175⟩ := hTT.rc
          refine z_Vi_eq (As := [.int (nI jz), .int (nI 0)]) (rest := []) C0 hP hS hl.1 (m_X4_cordOf l _ hTT hj (by decide) hI.pc) lk_L_15 hTT.n0 hfs_175 rfl rfl (Nat.le_of_ble_eq_true rfl) ⟨Nat.le_of_ble_eq_true rfl, Nat.le_of_ble_eq_true rfl⟩ rfl rfl ⟨Nat.zero_le _, Nat.zero_le _⟩ dL_change_175 (fun H locs hP hS => ?_)
          refine z_topi (y := cTold st jz) rfl ?_
          refine lv_istore (lv' := [(10, .int (cTold st jz)), (9, .int (cRop st jz (cTold st iz))), (8, .int (st 1)), (7, .int (st 4)), (6, .int (st (6 + 31 * iz + 1))), (5, .int (cTold st iz)), (4, .int (nI jz)), (3, .int (nI iz)), (0, .ref (ad 0)), (1, .int xz), (2, .int yz)]) hx hb dL_change_178 hl (by decide) rfl (fun ls hl => ?_)
          refine lv_aload_n hx hb dL_change_180 rfl (lv_at hl 8 rfl) ?_
          refine lv_iload_n hx hb dL_change_181 rfl (lv_at hl 7 rfl) ?_
          refine lv_iload hx hb dL_change_182 (lv_at hl 6 rfl) ?_
          obtain ⟨fs_184, hfs_184⟩ := hTT.rc
          refine z_Vi_mo (As := [.int (nI iz), .int (nI jz)]) (rest := []) C0 hP hS hl.1 (m_X4_add l _ hTT hi hj hij hI.pc hnx hsz) lk_L_34 hTT.n0 hfs_184 rfl rfl (Nat.le_of_ble_eq_true rfl) ⟨Nat.le_of_ble_eq_true rfl, Nat.le_of_ble_eq_true rfl⟩ rfl rfl ⟨Nat.zero_le _, Nat.zero_le _⟩ dL_change_184 (fun r_184 g_11 H locs hP hS hp => ?_)
          obtain ⟨hr_184, hTT, hF1⟩ := hp
          subst hr_184
          have hFr := hFr.tr (hF1.mono (by intro x9 hx9; first | (dsimp only [zOne, zRg, zCl] at hx9 ⊢; omega) | (dsimp only at hx9 ⊢; omega) | omega))
          have eA := ad_r c_154 hq
          rw [eA.1] at hTT
          have hI2 : pI tz (upd st 4 (st 4 + 1)) := hI.u4 _
          refine z_topi (y := cRop st jz (cTold st iz)) eA.2 ?_
          refine lv_istore (lv' := [(11, .int (cRop st jz (cTold st iz))), (10, .int (cTold st jz)), (9, .int (cRop st jz (cTold st iz))), (8, .int (st 1)), (7, .int (st 4)), (6, .int (st (6 + 31 * iz + 1))), (5, .int (cTold st iz)), (4, .int (nI jz)), (3, .int (nI iz)), (0, .ref (ad 0)), (1, .int xz), (2, .int yz)]) hx hb dL_change_187 hl (by decide) rfl (fun ls hl => ?_)
          refine lv_iload hx hb dL_change_189 (lv_at hl 6 rfl) ?_
          refine lv_if_ne (tgt := 202) hx hb dL_change_191 (by decide) (fun c_191 => ?_) (fun c_191 => absurd c_191 c_154)
          refine lv_iload hx hb dL_change_202 (lv_at hl 2 rfl) ?_
          refine lv_if_le (tgt := 217) hx hb dL_change_204 (by decide) (fun c_204 => absurd c_204 (rop_nle hq)) (fun c_204 => ?_)
          refine lv_iload hx hb dL_change_207 (lv_at hl 0 rfl) ?_
          refine lv_iload hx hb dL_change_209 (lv_at hl 2 rfl) ?_
          refine lv_icmp_ne (tgt := 294) hx hb dL_change_211 (by decide) (fun c_211 => absurd (rfl) c_211) (fun c_211 => ?_)
          refine lv_goto (tgt := 233) hx hb dL_change_214 (by decide) ?_
          refine lv_aload_n hx hb dL_change_233 rfl (lv_at hl 9 rfl) ?_
          refine lv_iload_n hx hb dL_change_234 rfl (lv_at hl 8 rfl) ?_
          refine lv_iconst (v := (nI 0)) hx hb dL_change_235 (by decide) ?_
          obtain ⟨fs_236, hfs_236⟩ := hTT.rc
          refine z_Vi_eq (As := [.int (nI iz), .int (nI 0)]) (rest := []) C0 hP hS hl.1 (m_X4_cordOf l _ hTT hi (by decide) hI2.pc) lk_L_15 hTT.n0 hfs_236 rfl rfl (Nat.le_of_ble_eq_true rfl) ⟨Nat.le_of_ble_eq_true rfl, Nat.le_of_ble_eq_true rfl⟩ rfl rfl ⟨Nat.zero_le _, Nat.zero_le _⟩ dL_change_236 (fun H locs hP hS => ?_)
          refine z_topi (y := cTold st iz) (u4_told hI.1 hi _) ?_
          refine lv_iload hx hb dL_change_239 (lv_at hl 6 rfl) ?_
          refine lv_icmp_ne (tgt := 294) hx hb dL_change_241 (by decide) (fun c_241 => absurd (rfl) c_241) (fun c_241 => ?_)
          refine lv_aload_n hx hb dL_change_244 rfl (lv_at hl 9 rfl) ?_
          refine lv_iload hx hb dL_change_245 (lv_at hl 7 rfl) ?_
          refine lv_iconst (v := (nI 0)) hx hb dL_change_247 (by decide) ?_
          obtain ⟨fs_248, hfs_248⟩ := hTT.rc
          refine z_Vi_eq (As := [.int (nI jz), .int (nI 0)]) (rest := []) C0 hP hS hl.1 (m_X4_cordOf l _ hTT hj (by decide) hI2.pc) lk_L_15 hTT.n0 hfs_248 rfl rfl (Nat.le_of_ble_eq_true rfl) ⟨Nat.le_of_ble_eq_true rfl, Nat.le_of_ble_eq_true rfl⟩ rfl rfl ⟨Nat.zero_le _, Nat.zero_le _⟩ dL_change_248 (fun H locs hP hS => ?_)
          refine z_topi (y := cTold st jz) (u4_told hI.1 hj _) ?_
          refine lv_iload hx hb dL_change_251 (lv_at hl 1 rfl) ?_
          refine lv_iload hx hb dL_change_253 (lv_at hl 2 rfl) ?_
          refine lv_if_le (tgt := 262) hx hb dL_change_255 (by decide) (fun c_255 => absurd c_255 (rop_nle hq)) (fun c_255 => ?_)
          refine lv_iconst (v := 0) hx hb dL_change_258 (by decide) ?_
          refine lv_goto (tgt := 264) hx hb dL_change_259 (by decide) ?_
          refine lv_iadd hx hb dL_change_264 ?_
          refine lv_icmp_ne (tgt := 294) hx hb dL_change_265 (by decide) (fun c_265 => absurd ((Int32.add_zero _).symm) c_265) (fun c_265 => ?_)
          refine lv_aload_n hx hb dL_change_268 rfl (lv_at hl 9 rfl) ?_
          refine lv_bipush (v := (nI 6)) hx hb dL_change_269 (by decide) ?_
          obtain ⟨fs_271, hfs_271⟩ := hTT.rc
          refine z_Vi_eq (As := [.int (nI 6)]) (rest := []) C0 hP hS hl.1 (m_X4_count l _ hTT (by decide) hI2.pc) lk_L_20 hTT.n0 hfs_271 rfl rfl (Nat.le_of_ble_eq_true rfl) ⟨Nat.le_of_ble_eq_true rfl, Nat.le_of_ble_eq_true rfl⟩ rfl rfl ⟨Nat.zero_le _, Nat.zero_le _⟩ dL_change_271 (fun H locs hP hS => ?_)
          refine z_topi (y := st 4 + 1) upd4_4 ?_
          refine lv_iload hx hb dL_change_274 (lv_at hl 4 rfl) ?_
          refine lv_iload hx hb dL_change_276 (lv_at hl 2 rfl) ?_
          refine lv_if_le (tgt := 285) hx hb dL_change_278 (by decide) (fun c_278 => absurd c_278 (rop_nle hq)) (fun c_278 => ?_)
          refine lv_iconst (v := 1) hx hb dL_change_281 (by decide) ?_
          refine lv_goto (tgt := 286) hx hb dL_change_282 (by decide) ?_
          refine lv_iadd hx hb dL_change_286 ?_
          refine lv_icmp_ne (tgt := 294) hx hb dL_change_287 (by decide) (fun c_287 => absurd (rfl) c_287) (fun c_287 => ?_)
          refine lv_iconst (v := 1) hx hb dL_change_290 (by decide) ?_
          refine lv_goto (tgt := 295) hx hb dL_change_291 (by decide) ?_
          exact z_zret C0 hP hS hr rfl (⟨rfl, _, _, _, _, hTT, hI2.mono, Nat.mod_lt _ (by decide), Nat.min_le_right _ _, hFr⟩) dL_change_295
      · refine lv_iconst (v := 0) hx hb dL_change_157 (by decide) ?_
        refine lv_goto (tgt := 169) hx hb dL_change_158 (by decide) ?_
        refine z_topi (y := 0) rfl ?_
        refine lv_istore (lv' := [(9, .int 0), (8, .int (st 1)), (7, .int (st 4)), (6, .int (st (6 + 31 * iz + 1))), (5, .int (cTold st iz)), (4, .int (nI jz)), (3, .int (nI iz)), (0, .ref (ad 0)), (1, .int xz), (2, .int yz)]) hx hb dL_change_169 hl (by decide) rfl (fun ls hl => ?_)
        refine lv_aload_n hx hb dL_change_171 rfl (lv_at hl 7 rfl) ?_
        refine lv_iload hx hb dL_change_172 (lv_at hl 5 rfl) ?_
        refine lv_iconst (v := (nI 0)) hx hb dL_change_174 (by decide) ?_
        obtain ⟨fs_175, hfs_175⟩ := hTT.rc
        refine z_Vi_eq (As := [.int (nI jz), .int (nI 0)]) (rest := []) C0 hP hS hl.1 (m_X4_cordOf l _ hTT hj (by decide) hI.pc) lk_L_15 hTT.n0 hfs_175 rfl rfl (Nat.le_of_ble_eq_true rfl) ⟨Nat.le_of_ble_eq_true rfl, Nat.le_of_ble_eq_true rfl⟩ rfl rfl ⟨Nat.zero_le _, Nat.zero_le _⟩ dL_change_175 (fun H locs hP hS => ?_)
        refine z_topi (y := cTold st jz) rfl ?_
        refine lv_istore (lv' := [(10, .int (cTold st jz)), (9, .int 0), (8, .int (st 1)), (7, .int (st 4)), (6, .int (st (6 + 31 * iz + 1))), (5, .int (cTold st iz)), (4, .int (nI jz)), (3, .int (nI iz)), (0, .ref (ad 0)), (1, .int xz), (2, .int yz)]) hx hb dL_change_178 hl (by decide) rfl (fun ls hl => ?_)
        refine lv_aload_n hx hb dL_change_180 rfl (lv_at hl 8 rfl) ?_
        refine lv_iload_n hx hb dL_change_181 rfl (lv_at hl 7 rfl) ?_
        refine lv_iload hx hb dL_change_182 (lv_at hl 6 rfl) ?_
        obtain ⟨fs_184, hfs_184⟩ := hTT.rc
        refine z_Vi_mo (As := [.int (nI iz), .int (nI jz)]) (rest := []) C0 hP hS hl.1 (m_X4_add l _ hTT hi hj hij hI.pc hnx hsz) lk_L_34 hTT.n0 hfs_184 rfl rfl (Nat.le_of_ble_eq_true rfl) ⟨Nat.le_of_ble_eq_true rfl, Nat.le_of_ble_eq_true rfl⟩ rfl rfl ⟨Nat.zero_le _, Nat.zero_le _⟩ dL_change_184 (fun r_184 g_12 H locs hP hS hp => ?_)
        obtain ⟨hr_184, hTT, hF1⟩ := hp
        subst hr_184
        have hFr := hFr.tr (hF1.mono (by intro x9 hx9; first | (dsimp only [zOne, zRg, zCl] at hx9 ⊢; omega) | (dsimp only at hx9 ⊢; omega) | omega))
        have eA := ad_0 (j := jz) c_154
        rw [eA.1] at hTT
        have hI2 : pI tz st := hI
        refine z_topi (y := 0) eA.2 ?_
        refine lv_istore (lv' := [(11, .int 0), (10, .int (cTold st jz)), (9, .int 0), (8, .int (st 1)), (7, .int (st 4)), (6, .int (st (6 + 31 * iz + 1))), (5, .int (cTold st iz)), (4, .int (nI jz)), (3, .int (nI iz)), (0, .ref (ad 0)), (1, .int xz), (2, .int yz)]) hx hb dL_change_187 hl (by decide) rfl (fun ls hl => ?_)
        refine lv_iload hx hb dL_change_189 (lv_at hl 6 rfl) ?_
        refine lv_if_ne (tgt := 202) hx hb dL_change_191 (by decide) (fun c_191 => absurd c_154 c_191) (fun c_191 => ?_)
        refine lv_iload hx hb dL_change_194 (lv_at hl 0 rfl) ?_
        refine lv_if_ne (tgt := 294) hx hb dL_change_196 (by decide) (fun c_196 => absurd c_196 (by decide)) (fun c_196 => ?_)
        refine lv_goto (tgt := 233) hx hb dL_change_199 (by decide) ?_
        refine lv_aload_n hx hb dL_change_233 rfl (lv_at hl 9 rfl) ?_
        refine lv_iload_n hx hb dL_change_234 rfl (lv_at hl 8 rfl) ?_
        refine lv_iconst (v := (nI 0)) hx hb dL_change_235 (by decide) ?_
        obtain ⟨fs_236, hfs_236⟩ := hTT.rc
        refine z_Vi_eq (As := [.int (nI iz), .int (nI 0)]) (rest := []) C0 hP hS hl.1 (m_X4_cordOf l _ hTT hi (by decide) hI2.pc) lk_L_15 hTT.n0 hfs_236 rfl rfl (Nat.le_of_ble_eq_true rfl) ⟨Nat.le_of_ble_eq_true rfl, Nat.le_of_ble_eq_true rfl⟩ rfl rfl ⟨Nat.zero_le _, Nat.zero_le _⟩ dL_change_236 (fun H locs hP hS => ?_)
        refine z_topi (y := cTold st iz) rfl ?_
        refine lv_iload hx hb dL_change_239 (lv_at hl 6 rfl) ?_
        refine lv_icmp_ne (tgt := 294) hx hb dL_change_241 (by decide) (fun c_241 => absurd (rfl) c_241) (fun c_241 => ?_)
        refine lv_aload_n hx hb dL_change_244 rfl (lv_at hl 9 rfl) ?_
        refine lv_iload hx hb dL_change_245 (lv_at hl 7 rfl) ?_
        refine lv_iconst (v := (nI 0)) hx hb dL_change_247 (by decide) ?_
        obtain ⟨fs_248, hfs_248⟩ := hTT.rc
        refine z_Vi_eq (As := [.int (nI jz), .int (nI 0)]) (rest := []) C0 hP hS hl.1 (m_X4_cordOf l _ hTT hj (by decide) hI2.pc) lk_L_15 hTT.n0 hfs_248 rfl rfl (Nat.le_of_ble_eq_true rfl) ⟨Nat.le_of_ble_eq_true rfl, Nat.le_of_ble_eq_true rfl⟩ rfl rfl ⟨Nat.zero_le _, Nat.zero_le _⟩ dL_change_248 (fun H locs hP hS => ?_)
        refine z_topi (y := cTold st jz) rfl ?_
        refine lv_iload hx hb dL_change_251 (lv_at hl 1 rfl) ?_
        refine lv_iload hx hb dL_change_253 (lv_at hl 2 rfl) ?_
        refine lv_if_le (tgt := 262) hx hb dL_change_255 (by decide) (fun c_255 => ?_) (fun c_255 => absurd c_255 (by decide))
        refine lv_iload hx hb dL_change_262 (lv_at hl 6 rfl) ?_
        refine lv_iadd hx hb dL_change_264 ?_
        refine lv_icmp_ne (tgt := 294) hx hb dL_change_265 (by decide) (fun c_265 => absurd (by rw [c_154]; exact (Int32.add_zero _).symm) c_265) (fun c_265 => ?_)
        refine lv_aload_n hx hb dL_change_268 rfl (lv_at hl 9 rfl) ?_
        refine lv_bipush (v := (nI 6)) hx hb dL_change_269 (by decide) ?_
        obtain ⟨fs_271, hfs_271⟩ := hTT.rc
        refine z_Vi_eq (As := [.int (nI 6)]) (rest := []) C0 hP hS hl.1 (m_X4_count l _ hTT (by decide) hI2.pc) lk_L_20 hTT.n0 hfs_271 rfl rfl (Nat.le_of_ble_eq_true rfl) ⟨Nat.le_of_ble_eq_true rfl, Nat.le_of_ble_eq_true rfl⟩ rfl rfl ⟨Nat.zero_le _, Nat.zero_le _⟩ dL_change_271 (fun H locs hP hS => ?_)
        refine z_topi (y := st 4) rfl ?_
        refine lv_iload hx hb dL_change_274 (lv_at hl 4 rfl) ?_
        refine lv_iload hx hb dL_change_276 (lv_at hl 2 rfl) ?_
        refine lv_if_le (tgt := 285) hx hb dL_change_278 (by decide) (fun c_278 => ?_) (fun c_278 => absurd c_278 (by decide))
        refine lv_iconst (v := 0) hx hb dL_change_285 (by decide) ?_
        refine lv_iadd hx hb dL_change_286 ?_
        refine lv_icmp_ne (tgt := 294) hx hb dL_change_287 (by decide) (fun c_287 => absurd ((Int32.add_zero _).symm) c_287) (fun c_287 => ?_)
        refine lv_iconst (v := 1) hx hb dL_change_290 (by decide) ?_
        refine lv_goto (tgt := 295) hx hb dL_change_291 (by decide) ?_
        exact z_zret C0 hP hS hr rfl (⟨rfl, _, _, _, _, hTT, hI2.mono, Nat.mod_lt _ (by decide), Nat.min_le_right _ _, hFr⟩) dL_change_295
    · refine lv_iconst (v := 1) hx hb dL_change_150 (by decide) ?_
      exact z_zret C0 hP hS hr rfl (⟨rfl, _, _, _, _, hTT, hI.mono, hnx, hsz, hFr⟩) dL_change_151
  · refine lv_tableIn (tgt := 296) hx hb dL_change_57 (by decide) (by decide) rfl (by decide) ?_
    refine lv_iload_n hx hb dL_change_296 rfl (lv_at hl 9 rfl) ?_
    refine lv_iconst (v := 4) hx hb dL_change_297 (by decide) ?_
    refine lv_ishr hx hb dL_change_298 ?_
    refine lv_bipush (v := (nI 6)) hx hb dL_change_299 (by decide) ?_
    refine z_Si_eq (As := [.int (yz >>> (4 &&& 31)), .int (nI 6)]) (rest := []) C0 hP hS hl.1 (m_L_low l _ (by decide) (by decide)) lk_L_9 rfl rfl (Nat.le_of_ble_eq_true rfl) ⟨Nat.le_of_ble_eq_true rfl, Nat.le_of_ble_eq_true rfl⟩ rfl rfl ⟨Nat.zero_le _, Nat.zero_le _⟩ dL_change_301 (fun H locs hP hS => ?_)
    obtain ⟨pz, hpz, ep⟩ := lowF_rng (yz >>> ((4 : Int32) &&& 31)) (n := 6) (by decide) (by decide)
    refine z_topi (y := nI pz) ep ?_
    refine lv_istore (lv' := [(12, .int (nI pz)), (9, .int 0), (8, .int (st 1)), (7, .int (st 4)), (6, .int (st (6 + 31 * iz + 1))), (5, .int (cTold st iz)), (4, .int (nI jz)), (3, .int (nI iz)), (0, .ref (ad 0)), (1, .int xz), (2, .int yz)]) hx hb dL_change_304 hl (by decide) rfl (fun ls hl => ?_)
    refine lv_aload_n hx hb dL_change_306 rfl (lv_at hl 8 rfl) ?_
    refine lv_iload_n hx hb dL_change_307 rfl (lv_at hl 7 rfl) ?_
    refine lv_iload hx hb dL_change_308 (lv_at hl 0 rfl) ?_
    refine lv_iconst (v := (nI 2)) hx hb dL_change_310 (by decide) ?_
    obtain ⟨fs_311, hfs_311⟩ := hTT.rc
    refine z_Vi_eq (As := [.int (nI iz), .int (nI pz), .int (nI 2)]) (rest := []) C0 hP hS hl.1 (m_X4_placeOf l _ hTT hi hpz (by decide)) lk_L_37 hTT.n0 hfs_311 rfl rfl (Nat.le_of_ble_eq_true rfl) ⟨Nat.le_of_ble_eq_true rfl, Nat.le_of_ble_eq_true rfl⟩ rfl rfl ⟨Nat.zero_le _, Nat.zero_le _⟩ dL_change_311 (fun H locs hP hS => ?_)
    refine z_topi (y := opn (fK st iz) (fL st iz) pz) rfl ?_
    refine lv_istore (lv' := [(13, .int (opn (fK st iz) (fL st iz) pz)), (12, .int (nI pz)), (9, .int 0), (8, .int (st 1)), (7, .int (st 4)), (6, .int (st (6 + 31 * iz + 1))), (5, .int (cTold st iz)), (4, .int (nI jz)), (3, .int (nI iz)), (0, .ref (ad 0)), (1, .int xz), (2, .int yz)]) hx hb dL_change_314 hl (by decide) rfl (fun ls hl => ?_)
    refine lv_aload_n hx hb dL_change_316 rfl (lv_at hl 9 rfl) ?_
    refine lv_iload_n hx hb dL_change_317 rfl (lv_at hl 8 rfl) ?_
    refine lv_iload hx hb dL_change_318 (lv_at hl 1 rfl) ?_
    refine lv_iconst (v := (nI 0)) hx hb dL_change_320 (by decide) ?_
    obtain ⟨fs_321, hfs_321⟩ := hTT.rc
    refine z_Vi_eq (As := [.int (nI iz), .int (nI pz), .int (nI 0)]) (rest := []) C0 hP hS hl.1 (m_X4_placeOf l _ hTT hi hpz (by decide)) lk_L_37 hTT.n0 hfs_321 rfl rfl (Nat.le_of_ble_eq_true rfl) ⟨Nat.le_of_ble_eq_true rfl, Nat.le_of_ble_eq_true rfl⟩ rfl rfl ⟨Nat.zero_le _, Nat.zero_le _⟩ dL_change_321 (fun H locs hP hS => ?_)
    refine z_topi (y := fK st iz pz) rfl ?_
    refine lv_istore (lv' := [(9, .int (fK st iz pz)), (13, .int (opn (fK st iz) (fL st iz) pz)), (12, .int (nI pz)), (8, .int (st 1)), (7, .int (st 4)), (6, .int (st (6 + 31 * iz + 1))), (5, .int (cTold st iz)), (4, .int (nI jz)), (3, .int (nI iz)), (0, .ref (ad 0)), (1, .int xz), (2, .int yz)]) hx hb dL_change_324 hl (by decide) rfl (fun ls hl => ?_)
    by_cases hq : opn (fK st iz) (fL st iz) pz = 0
    · refine lv_aload_n hx hb dL_change_326 rfl (lv_at hl 9 rfl) ?_
      refine lv_iload_n hx hb dL_change_327 rfl (lv_at hl 8 rfl) ?_
      refine lv_iload hx hb dL_change_328 (lv_at hl 2 rfl) ?_
      obtain ⟨fs_330, hfs_330⟩ := hTT.rc
      refine z_Vi_mo (As := [.int (nI iz), .int (nI pz)]) (rest := []) C0 hP hS hl.1 (m_X4_slip l _ hTT hi hpz hnx hsz) lk_L_41 hTT.n0 hfs_330 rfl rfl (Nat.le_of_ble_eq_true rfl) ⟨Nat.le_of_ble_eq_true rfl, Nat.le_of_ble_eq_true rfl⟩ rfl rfl ⟨Nat.zero_le _, Nat.zero_le _⟩ dL_change_330 (fun r_330 g_13 H locs hP hS hp => ?_)
      obtain ⟨hr_330, hTT, hF1⟩ := hp
      subst hr_330
      have hFr := hFr.tr (hF1.mono (by intro x9 hx9; first | (dsimp only [zOne, zRg, zCl] at hx9 ⊢; omega) | (dsimp only at hx9 ⊢; omega) | omega))
      rw [sls_T hq] at hTT
      have hI2 : pI (tz + 1) (upd st 4 (st 4 + 1)) := (hI.u4 _).mono
      refine lv_iload hx hb dL_change_333 (lv_at hl 1 rfl) ?_
      refine lv_if_ne (tgt := 342) hx hb dL_change_335 (by decide) (fun c_335 => absurd hq c_335) (fun c_335 => ?_)
      refine lv_iconst (v := (-1)) hx hb dL_change_338 (by decide) ?_
      refine lv_goto (tgt := 346) hx hb dL_change_339 (by decide) ?_
      refine lv_icmp_ne (tgt := 410) hx hb dL_change_346 (by decide) (fun c_346 => absurd (slr_T hq) c_346) (fun c_346 => ?_)
      refine lv_aload_n hx hb dL_change_349 rfl (lv_at hl 9 rfl) ?_
      refine lv_iload_n hx hb dL_change_350 rfl (lv_at hl 8 rfl) ?_
      refine lv_iload hx hb dL_change_351 (lv_at hl 2 rfl) ?_
      refine lv_iconst (v := (nI 0)) hx hb dL_change_353 (by decide) ?_
      obtain ⟨fs_354, hfs_354⟩ := hTT.rc
      refine z_Vi_eq (As := [.int (nI iz), .int (nI pz), .int (nI 0)]) (rest := []) C0 hP hS hl.1 (m_X4_placeOf l _ hTT hi hpz (by decide)) lk_L_37 hTT.n0 hfs_354 rfl rfl (Nat.le_of_ble_eq_true rfl) ⟨Nat.le_of_ble_eq_true rfl, Nat.le_of_ble_eq_true rfl⟩ rfl rfl ⟨Nat.zero_le _, Nat.zero_le _⟩ dL_change_354 (fun H locs hP hS => ?_)
      refine z_topi (y := fK st iz pz) (upd_lo (by decide) iz (19 + pz)) ?_
      refine lv_iload hx hb dL_change_357 (lv_at hl 0 rfl) ?_
      refine lv_iload hx hb dL_change_359 (lv_at hl 1 rfl) ?_
      refine lv_if_ne (tgt := 368) hx hb dL_change_361 (by decide) (fun c_361 => absurd hq c_361) (fun c_361 => ?_)
      refine lv_iconst (v := 0) hx hb dL_change_364 (by decide) ?_
      refine lv_goto (tgt := 369) hx hb dL_change_365 (by decide) ?_
      refine lv_isub hx hb dL_change_369 ?_
      refine lv_icmp_ne (tgt := 410) hx hb dL_change_370 (by decide) (fun c_370 => absurd ((sub_0 _).symm) c_370) (fun c_370 => ?_)
      refine lv_aload_n hx hb dL_change_373 rfl (lv_at hl 9 rfl) ?_
      refine lv_bipush (v := (nI 6)) hx hb dL_change_374 (by decide) ?_
      obtain ⟨fs_376, hfs_376⟩ := hTT.rc
      refine z_Vi_eq (As := [.int (nI 6)]) (rest := []) C0 hP hS hl.1 (m_X4_count l _ hTT (by decide) hI2.pc) lk_L_20 hTT.n0 hfs_376 rfl rfl (Nat.le_of_ble_eq_true rfl) ⟨Nat.le_of_ble_eq_true rfl, Nat.le_of_ble_eq_true rfl⟩ rfl rfl ⟨Nat.zero_le _, Nat.zero_le _⟩ dL_change_376 (fun H locs hP hS => ?_)
      refine z_topi (y := st 4 + 1) upd4_4 ?_
      refine lv_iload hx hb dL_change_379 (lv_at hl 4 rfl) ?_
      refine lv_iload hx hb dL_change_381 (lv_at hl 1 rfl) ?_
      refine lv_if_ne (tgt := 390) hx hb dL_change_383 (by decide) (fun c_383 => absurd hq c_383) (fun c_383 => ?_)
      refine lv_iconst (v := 1) hx hb dL_change_386 (by decide) ?_
      refine lv_goto (tgt := 391) hx hb dL_change_387 (by decide) ?_
      refine lv_iadd hx hb dL_change_391 ?_
      refine lv_icmp_ne (tgt := 410) hx hb dL_change_392 (by decide) (fun c_392 => absurd (rfl) c_392) (fun c_392 => ?_)
      refine lv_aload_n hx hb dL_change_395 rfl (lv_at hl 9 rfl) ?_
      refine lv_iload_n hx hb dL_change_396 rfl (lv_at hl 8 rfl) ?_
      refine lv_iconst (v := (nI 2)) hx hb dL_change_397 (by decide) ?_
      obtain ⟨fs_398, hfs_398⟩ := hTT.rc
      refine z_Vi_eq (As := [.int (nI iz), .int (nI 2)]) (rest := []) C0 hP hS hl.1 (m_X4_cordOf l _ hTT hi (by decide) hI2.pc) lk_L_15 hTT.n0 hfs_398 rfl rfl (Nat.le_of_ble_eq_true rfl) ⟨Nat.le_of_ble_eq_true rfl, Nat.le_of_ble_eq_true rfl⟩ rfl rfl ⟨Nat.zero_le _, Nat.zero_le _⟩ dL_change_398 (fun H locs hP hS => ?_)
      refine z_topi (y := st (6 + 31 * iz + 1)) (upd_lo (by decide) iz 1) ?_
      refine lv_iload hx hb dL_change_401 (lv_at hl 5 rfl) ?_
      refine lv_icmp_ne (tgt := 410) hx hb dL_change_403 (by decide) (fun c_403 => absurd (rfl) c_403) (fun c_403 => ?_)
      refine lv_iconst (v := 1) hx hb dL_change_406 (by decide) ?_
      refine lv_goto (tgt := 411) hx hb dL_change_407 (by decide) ?_
      exact z_zret C0 hP hS hr rfl (⟨rfl, _, _, _, _, hTT, hI2, Nat.mod_lt _ (by decide), Nat.min_le_right _ _, hFr⟩) dL_change_411
    · refine lv_aload_n hx hb dL_change_326 rfl (lv_at hl 9 rfl) ?_
      refine lv_iload_n hx hb dL_change_327 rfl (lv_at hl 8 rfl) ?_
      refine lv_iload hx hb dL_change_328 (lv_at hl 2 rfl) ?_
      obtain ⟨fs_330, hfs_330⟩ := hTT.rc
      refine z_Vi_mo (As := [.int (nI iz), .int (nI pz)]) (rest := []) C0 hP hS hl.1 (m_X4_slip l _ hTT hi hpz hnx hsz) lk_L_41 hTT.n0 hfs_330 rfl rfl (Nat.le_of_ble_eq_true rfl) ⟨Nat.le_of_ble_eq_true rfl, Nat.le_of_ble_eq_true rfl⟩ rfl rfl ⟨Nat.zero_le _, Nat.zero_le _⟩ dL_change_330 (fun r_330 g_14 H locs hP hS hp => ?_)
      obtain ⟨hr_330, hTT, hF1⟩ := hp
      subst hr_330
      have hFr := hFr.tr (hF1.mono (by intro x9 hx9; first | (dsimp only [zOne, zRg, zCl] at hx9 ⊢; omega) | (dsimp only at hx9 ⊢; omega) | omega))
      rw [sls_F hq] at hTT
      have hI2 : pI (tz + 1) (slipF st iz pz) := by have h9 := hI.ss ht hi hpz; rw [sls_F hq] at h9; exact h9
      refine lv_iload hx hb dL_change_333 (lv_at hl 1 rfl) ?_
      refine lv_if_ne (tgt := 342) hx hb dL_change_335 (by decide) (fun c_335 => ?_) (fun c_335 => absurd c_335 hq)
      refine lv_iload hx hb dL_change_342 (lv_at hl 1 rfl) ?_
      refine lv_iconst (v := 1) hx hb dL_change_344 (by decide) ?_
      refine lv_isub hx hb dL_change_345 ?_
      refine lv_icmp_ne (tgt := 410) hx hb dL_change_346 (by decide) (fun c_346 => absurd (slr_F hq) c_346) (fun c_346 => ?_)
      refine lv_aload_n hx hb dL_change_349 rfl (lv_at hl 9 rfl) ?_
      refine lv_iload_n hx hb dL_change_350 rfl (lv_at hl 8 rfl) ?_
      refine lv_iload hx hb dL_change_351 (lv_at hl 2 rfl) ?_
      refine lv_iconst (v := (nI 0)) hx hb dL_change_353 (by decide) ?_
      obtain ⟨fs_354, hfs_354⟩ := hTT.rc
      refine z_Vi_eq (As := [.int (nI iz), .int (nI pz), .int (nI 0)]) (rest := []) C0 hP hS hl.1 (m_X4_placeOf l _ hTT hi hpz (by decide)) lk_L_37 hTT.n0 hfs_354 rfl rfl (Nat.le_of_ble_eq_true rfl) ⟨Nat.le_of_ble_eq_true rfl, Nat.le_of_ble_eq_true rfl⟩ rfl rfl ⟨Nat.zero_le _, Nat.zero_le _⟩ dL_change_354 (fun H locs hP hS => ?_)
      refine z_topi (y := fK st iz pz - 1) sl_k ?_
      refine lv_iload hx hb dL_change_357 (lv_at hl 0 rfl) ?_
      refine lv_iload hx hb dL_change_359 (lv_at hl 1 rfl) ?_
      refine lv_if_ne (tgt := 368) hx hb dL_change_361 (by decide) (fun c_361 => ?_) (fun c_361 => absurd c_361 hq)
      refine lv_iconst (v := 1) hx hb dL_change_368 (by decide) ?_
      refine lv_isub hx hb dL_change_369 ?_
      refine lv_icmp_ne (tgt := 410) hx hb dL_change_370 (by decide) (fun c_370 => absurd (rfl) c_370) (fun c_370 => ?_)
      refine lv_aload_n hx hb dL_change_373 rfl (lv_at hl 9 rfl) ?_
      refine lv_bipush (v := (nI 6)) hx hb dL_change_374 (by decide) ?_
      obtain ⟨fs_376, hfs_376⟩ := hTT.rc
      refine z_Vi_eq (As := [.int (nI 6)]) (rest := []) C0 hP hS hl.1 (m_X4_count l _ hTT (by decide) hI2.pc) lk_L_20 hTT.n0 hfs_376 rfl rfl (Nat.le_of_ble_eq_true rfl) ⟨Nat.le_of_ble_eq_true rfl, Nat.le_of_ble_eq_true rfl⟩ rfl rfl ⟨Nat.zero_le _, Nat.zero_le _⟩ dL_change_376 (fun H locs hP hS => ?_)
      refine z_topi (y := st 4) (sl_c (by decide) (by decide)) ?_
      refine lv_iload hx hb dL_change_379 (lv_at hl 4 rfl) ?_
      refine lv_iload hx hb dL_change_381 (lv_at hl 1 rfl) ?_
      refine lv_if_ne (tgt := 390) hx hb dL_change_383 (by decide) (fun c_383 => ?_) (fun c_383 => absurd c_383 hq)
      refine lv_iconst (v := 0) hx hb dL_change_390 (by decide) ?_
      refine lv_iadd hx hb dL_change_391 ?_
      refine lv_icmp_ne (tgt := 410) hx hb dL_change_392 (by decide) (fun c_392 => absurd ((Int32.add_zero _).symm) c_392) (fun c_392 => ?_)
      refine lv_aload_n hx hb dL_change_395 rfl (lv_at hl 9 rfl) ?_
      refine lv_iload_n hx hb dL_change_396 rfl (lv_at hl 8 rfl) ?_
      refine lv_iconst (v := (nI 2)) hx hb dL_change_397 (by decide) ?_
      obtain ⟨fs_398, hfs_398⟩ := hTT.rc
      refine z_Vi_eq (As := [.int (nI iz), .int (nI 2)]) (rest := []) C0 hP hS hl.1 (m_X4_cordOf l _ hTT hi (by decide) hI2.pc) lk_L_15 hTT.n0 hfs_398 rfl rfl (Nat.le_of_ble_eq_true rfl) ⟨Nat.le_of_ble_eq_true rfl, Nat.le_of_ble_eq_true rfl⟩ rfl rfl ⟨Nat.zero_le _, Nat.zero_le _⟩ dL_change_398 (fun H locs hP hS => ?_)
      refine z_topi (y := st (6 + 31 * iz + 1)) (slipF_j (by decide) (by omega)) ?_
      refine lv_iload hx hb dL_change_401 (lv_at hl 5 rfl) ?_
      refine lv_icmp_ne (tgt := 410) hx hb dL_change_403 (by decide) (fun c_403 => absurd (rfl) c_403) (fun c_403 => ?_)
      refine lv_iconst (v := 1) hx hb dL_change_406 (by decide) ?_
      refine lv_goto (tgt := 411) hx hb dL_change_407 (by decide) ?_
      exact z_zret C0 hP hS hr rfl (⟨rfl, _, _, _, _, hTT, hI2, Nat.mod_lt _ (by decide), Nat.min_le_right _ _, hFr⟩) dL_change_411
  · refine lv_tableIn (tgt := 296) hx hb dL_change_57 (by decide) (by decide) rfl (by decide) ?_
    refine lv_iload_n hx hb dL_change_296 rfl (lv_at hl 9 rfl) ?_
    refine lv_iconst (v := 4) hx hb dL_change_297 (by decide) ?_
    refine lv_ishr hx hb dL_change_298 ?_
    refine lv_bipush (v := (nI 6)) hx hb dL_change_299 (by decide) ?_
    refine z_Si_eq (As := [.int (yz >>> (4 &&& 31)), .int (nI 6)]) (rest := []) C0 hP hS hl.1 (m_L_low l _ (by decide) (by decide)) lk_L_9 rfl rfl (Nat.le_of_ble_eq_true rfl) ⟨Nat.le_of_ble_eq_true rfl, Nat.le_of_ble_eq_true rfl⟩ rfl rfl ⟨Nat.zero_le _, Nat.zero_le _⟩ dL_change_301 (fun H locs hP hS => ?_)
    obtain ⟨pz, hpz, ep⟩ := lowF_rng (yz >>> ((4 : Int32) &&& 31)) (n := 6) (by decide) (by decide)
    refine z_topi (y := nI pz) ep ?_
    refine lv_istore (lv' := [(12, .int (nI pz)), (9, .int 0), (8, .int (st 1)), (7, .int (st 4)), (6, .int (st (6 + 31 * iz + 1))), (5, .int (cTold st iz)), (4, .int (nI jz)), (3, .int (nI iz)), (0, .ref (ad 0)), (1, .int xz), (2, .int yz)]) hx hb dL_change_304 hl (by decide) rfl (fun ls hl => ?_)
    refine lv_aload_n hx hb dL_change_306 rfl (lv_at hl 8 rfl) ?_
    refine lv_iload_n hx hb dL_change_307 rfl (lv_at hl 7 rfl) ?_
    refine lv_iload hx hb dL_change_308 (lv_at hl 0 rfl) ?_
    refine lv_iconst (v := (nI 2)) hx hb dL_change_310 (by decide) ?_
    obtain ⟨fs_311, hfs_311⟩ := hTT.rc
    refine z_Vi_eq (As := [.int (nI iz), .int (nI pz), .int (nI 2)]) (rest := []) C0 hP hS hl.1 (m_X4_placeOf l _ hTT hi hpz (by decide)) lk_L_37 hTT.n0 hfs_311 rfl rfl (Nat.le_of_ble_eq_true rfl) ⟨Nat.le_of_ble_eq_true rfl, Nat.le_of_ble_eq_true rfl⟩ rfl rfl ⟨Nat.zero_le _, Nat.zero_le _⟩ dL_change_311 (fun H locs hP hS => ?_)
    refine z_topi (y := opn (fK st iz) (fL st iz) pz) rfl ?_
    refine lv_istore (lv' := [(13, .int (opn (fK st iz) (fL st iz) pz)), (12, .int (nI pz)), (9, .int 0), (8, .int (st 1)), (7, .int (st 4)), (6, .int (st (6 + 31 * iz + 1))), (5, .int (cTold st iz)), (4, .int (nI jz)), (3, .int (nI iz)), (0, .ref (ad 0)), (1, .int xz), (2, .int yz)]) hx hb dL_change_314 hl (by decide) rfl (fun ls hl => ?_)
    refine lv_aload_n hx hb dL_change_316 rfl (lv_at hl 9 rfl) ?_
    refine lv_iload_n hx hb dL_change_317 rfl (lv_at hl 8 rfl) ?_
    refine lv_iload hx hb dL_change_318 (lv_at hl 1 rfl) ?_
    refine lv_iconst (v := (nI 0)) hx hb dL_change_320 (by decide) ?_
    obtain ⟨fs_321, hfs_321⟩ := hTT.rc
    refine z_Vi_eq (As := [.int (nI iz), .int (nI pz), .int (nI 0)]) (rest := []) C0 hP hS hl.1 (m_X4_placeOf l _ hTT hi hpz (by decide)) lk_L_37 hTT.n0 hfs_321 rfl rfl (Nat.le_of_ble_eq_true rfl) ⟨Nat.le_of_ble_eq_true rfl, Nat.le_of_ble_eq_true rfl⟩ rfl rfl ⟨Nat.zero_le _, Nat.zero_le _⟩ dL_change_321 (fun H locs hP hS => ?_)
    refine z_topi (y := fK st iz pz) rfl ?_
    refine lv_istore (lv' := [(9, .int (fK st iz pz)), (13, .int (opn (fK st iz) (fL st iz) pz)), (12, .int (nI pz)), (8, .int (st 1)), (7, .int (st 4)), (6, .int (st (6 + 31 * iz + 1))), (5, .int (cTold st iz)), (4, .int (nI jz)), (3, .int (nI iz)), (0, .ref (ad 0)), (1, .int xz), (2, .int yz)]) hx hb dL_change_324 hl (by decide) rfl (fun ls hl => ?_)
    by_cases hq : opn (fK st iz) (fL st iz) pz = 0
    · refine lv_aload_n hx hb dL_change_326 rfl (lv_at hl 9 rfl) ?_
      refine lv_iload_n hx hb dL_change_327 rfl (lv_at hl 8 rfl) ?_
      refine lv_iload hx hb dL_change_328 (lv_at hl 2 rfl) ?_
      obtain ⟨fs_330, hfs_330⟩ := hTT.rc
      refine z_Vi_mo (As := [.int (nI iz), .int (nI pz)]) (rest := []) C0 hP hS hl.1 (m_X4_slip l _ hTT hi hpz hnx hsz) lk_L_41 hTT.n0 hfs_330 rfl rfl (Nat.le_of_ble_eq_true rfl) ⟨Nat.le_of_ble_eq_true rfl, Nat.le_of_ble_eq_true rfl⟩ rfl rfl ⟨Nat.zero_le _, Nat.zero_le _⟩ dL_change_330 (fun r_330 g_15 H locs hP hS hp => ?_)
      obtain ⟨hr_330, hTT, hF1⟩ := hp
      subst hr_330
      have hFr := hFr.tr (hF1.mono (by intro x9 hx9; first | (dsimp only [zOne, zRg, zCl] at hx9 ⊢; omega) | (dsimp only at hx9 ⊢; omega) | omega))
      rw [sls_T hq] at hTT
      have hI2 : pI (tz + 1) (upd st 4 (st 4 + 1)) := (hI.u4 _).mono
      refine lv_iload hx hb dL_change_333 (lv_at hl 1 rfl) ?_
      refine lv_if_ne (tgt := 342) hx hb dL_change_335 (by decide) (fun c_335 => absurd hq c_335) (fun c_335 => ?_)
      refine lv_iconst (v := (-1)) hx hb dL_change_338 (by decide) ?_
      refine lv_goto (tgt := 346) hx hb dL_change_339 (by decide) ?_
      refine lv_icmp_ne (tgt := 410) hx hb dL_change_346 (by decide) (fun c_346 => absurd (slr_T hq) c_346) (fun c_346 => ?_)
      refine lv_aload_n hx hb dL_change_349 rfl (lv_at hl 9 rfl) ?_
      refine lv_iload_n hx hb dL_change_350 rfl (lv_at hl 8 rfl) ?_
      refine lv_iload hx hb dL_change_351 (lv_at hl 2 rfl) ?_
      refine lv_iconst (v := (nI 0)) hx hb dL_change_353 (by decide) ?_
      obtain ⟨fs_354, hfs_354⟩ := hTT.rc
      refine z_Vi_eq (As := [.int (nI iz), .int (nI pz), .int (nI 0)]) (rest := []) C0 hP hS hl.1 (m_X4_placeOf l _ hTT hi hpz (by decide)) lk_L_37 hTT.n0 hfs_354 rfl rfl (Nat.le_of_ble_eq_true rfl) ⟨Nat.le_of_ble_eq_true rfl, Nat.le_of_ble_eq_true rfl⟩ rfl rfl ⟨Nat.zero_le _, Nat.zero_le _⟩ dL_change_354 (fun H locs hP hS => ?_)
      refine z_topi (y := fK st iz pz) (upd_lo (by decide) iz (19 + pz)) ?_
      refine lv_iload hx hb dL_change_357 (lv_at hl 0 rfl) ?_
      refine lv_iload hx hb dL_change_359 (lv_at hl 1 rfl) ?_
      refine lv_if_ne (tgt := 368) hx hb dL_change_361 (by decide) (fun c_361 => absurd hq c_361) (fun c_361 => ?_)
      refine lv_iconst (v := 0) hx hb dL_change_364 (by decide) ?_
      refine lv_goto (tgt := 369) hx hb dL_change_365 (by decide) ?_
      refine lv_isub hx hb dL_change_369 ?_
      refine lv_icmp_ne (tgt := 410) hx hb dL_change_370 (by decide) (fun c_370 => absurd ((sub_0 _).symm) c_370) (fun c_370 => ?_)
      refine lv_aload_n hx hb dL_change_373 rfl (lv_at hl 9 rfl) ?_
      refine lv_bipush (v := (nI 6)) hx hb dL_change_374 (by decide) ?_
      obtain ⟨fs_376, hfs_376⟩ := hTT.rc
      refine z_Vi_eq (As := [.int (nI 6)]) (rest := []) C0 hP hS hl.1 (m_X4_count l _ hTT (by decide) hI2.pc) lk_L_20 hTT.n0 hfs_376 rfl rfl (Nat.le_of_ble_eq_true rfl) ⟨Nat.le_of_ble_eq_true rfl, Nat.le_of_ble_eq_true rfl⟩ rfl rfl ⟨Nat.zero_le _, Nat.zero_le _⟩ dL_change_376 (fun H locs hP hS => ?_)
      refine z_topi (y := st 4 + 1) upd4_4 ?_
      refine lv_iload hx hb dL_change_379 (lv_at hl 4 rfl) ?_
      refine lv_iload hx hb dL_change_381 (lv_at hl 1 rfl) ?_
      refine lv_if_ne (tgt := 390) hx hb dL_change_383 (by decide) (fun c_383 => absurd hq c_383) (fun c_383 => ?_)
      refine lv_iconst (v := 1) hx hb dL_change_386 (by decide) ?_
      refine lv_goto (tgt := 391) hx hb dL_change_387 (by decide) ?_
      refine lv_iadd hx hb dL_change_391 ?_
      refine lv_icmp_ne (tgt := 410) hx hb dL_change_392 (by decide) (fun c_392 => absurd (rfl) c_392) (fun c_392 => ?_)
      refine lv_aload_n hx hb dL_change_395 rfl (lv_at hl 9 rfl) ?_
      refine lv_iload_n hx hb dL_change_396 rfl (lv_at hl 8 rfl) ?_
      refine lv_iconst (v := (nI 2)) hx hb dL_change_397 (by decide) ?_
      obtain ⟨fs_398, hfs_398⟩ := hTT.rc
      refine z_Vi_eq (As := [.int (nI iz), .int (nI 2)]) (rest := []) C0 hP hS hl.1 (m_X4_cordOf l _ hTT hi (by decide) hI2.pc) lk_L_15 hTT.n0 hfs_398 rfl rfl (Nat.le_of_ble_eq_true rfl) ⟨Nat.le_of_ble_eq_true rfl, Nat.le_of_ble_eq_true rfl⟩ rfl rfl ⟨Nat.zero_le _, Nat.zero_le _⟩ dL_change_398 (fun H locs hP hS => ?_)
      refine z_topi (y := st (6 + 31 * iz + 1)) (upd_lo (by decide) iz 1) ?_
      refine lv_iload hx hb dL_change_401 (lv_at hl 5 rfl) ?_
      refine lv_icmp_ne (tgt := 410) hx hb dL_change_403 (by decide) (fun c_403 => absurd (rfl) c_403) (fun c_403 => ?_)
      refine lv_iconst (v := 1) hx hb dL_change_406 (by decide) ?_
      refine lv_goto (tgt := 411) hx hb dL_change_407 (by decide) ?_
      exact z_zret C0 hP hS hr rfl (⟨rfl, _, _, _, _, hTT, hI2, Nat.mod_lt _ (by decide), Nat.min_le_right _ _, hFr⟩) dL_change_411
    · refine lv_aload_n hx hb dL_change_326 rfl (lv_at hl 9 rfl) ?_
      refine lv_iload_n hx hb dL_change_327 rfl (lv_at hl 8 rfl) ?_
      refine lv_iload hx hb dL_change_328 (lv_at hl 2 rfl) ?_
      obtain ⟨fs_330, hfs_330⟩ := hTT.rc
      refine z_Vi_mo (As := [.int (nI iz), .int (nI pz)]) (rest := []) C0 hP hS hl.1 (m_X4_slip l _ hTT hi hpz hnx hsz) lk_L_41 hTT.n0 hfs_330 rfl rfl (Nat.le_of_ble_eq_true rfl) ⟨Nat.le_of_ble_eq_true rfl, Nat.le_of_ble_eq_true rfl⟩ rfl rfl ⟨Nat.zero_le _, Nat.zero_le _⟩ dL_change_330 (fun r_330 g_16 H locs hP hS hp => ?_)
      obtain ⟨hr_330, hTT, hF1⟩ := hp
      subst hr_330
      have hFr := hFr.tr (hF1.mono (by intro x9 hx9; first | (dsimp only [zOne, zRg, zCl] at hx9 ⊢; omega) | (dsimp only at hx9 ⊢; omega) | omega))
      rw [sls_F hq] at hTT
      have hI2 : pI (tz + 1) (slipF st iz pz) := by have h9 := hI.ss ht hi hpz; rw [sls_F hq] at h9; exact h9
      refine lv_iload hx hb dL_change_333 (lv_at hl 1 rfl) ?_
      refine lv_if_ne (tgt := 342) hx hb dL_change_335 (by decide) (fun c_335 => ?_) (fun c_335 => absurd c_335 hq)
      refine lv_iload hx hb dL_change_342 (lv_at hl 1 rfl) ?_
      refine lv_iconst (v := 1) hx hb dL_change_344 (by decide) ?_
      refine lv_isub hx hb dL_change_345 ?_
      refine lv_icmp_ne (tgt := 410) hx hb dL_change_346 (by decide) (fun c_346 => absurd (slr_F hq) c_346) (fun c_346 => ?_)
      refine lv_aload_n hx hb dL_change_349 rfl (lv_at hl 9 rfl) ?_
      refine lv_iload_n hx hb dL_change_350 rfl (lv_at hl 8 rfl) ?_
      refine lv_iload hx hb dL_change_351 (lv_at hl 2 rfl) ?_
      refine lv_iconst (v := (nI 0)) hx hb dL_change_353 (by decide) ?_
      obtain ⟨fs_354, hfs_354⟩ := hTT.rc
      refine z_Vi_eq (As := [.int (nI iz), .int (nI pz), .int (nI 0)]) (rest := []) C0 hP hS hl.1 (m_X4_placeOf l _ hTT hi hpz (by decide)) lk_L_37 hTT.n0 hfs_354 rfl rfl (Nat.le_of_ble_eq_true rfl) ⟨Nat.le_of_ble_eq_true rfl, Nat.le_of_ble_eq_true rfl⟩ rfl rfl ⟨Nat.zero_le _, Nat.zero_le _⟩ dL_change_354 (fun H locs hP hS => ?_)
      refine z_topi (y := fK st iz pz - 1) sl_k ?_
      refine lv_iload hx hb dL_change_357 (lv_at hl 0 rfl) ?_
      refine lv_iload hx hb dL_change_359 (lv_at hl 1 rfl) ?_
      refine lv_if_ne (tgt := 368) hx hb dL_change_361 (by decide) (fun c_361 => ?_) (fun c_361 => absurd c_361 hq)
      refine lv_iconst (v := 1) hx hb dL_change_368 (by decide) ?_
      refine lv_isub hx hb dL_change_369 ?_
      refine lv_icmp_ne (tgt := 410) hx hb dL_change_370 (by decide) (fun c_370 => absurd (rfl) c_370) (fun c_370 => ?_)
      refine lv_aload_n hx hb dL_change_373 rfl (lv_at hl 9 rfl) ?_
      refine lv_bipush (v := (nI 6)) hx hb dL_change_374 (by decide) ?_
      obtain ⟨fs_376, hfs_376⟩ := hTT.rc
      refine z_Vi_eq (As := [.int (nI 6)]) (rest := []) C0 hP hS hl.1 (m_X4_count l _ hTT (by decide) hI2.pc) lk_L_20 hTT.n0 hfs_376 rfl rfl (Nat.le_of_ble_eq_true rfl) ⟨Nat.le_of_ble_eq_true rfl, Nat.le_of_ble_eq_true rfl⟩ rfl rfl ⟨Nat.zero_le _, Nat.zero_le _⟩ dL_change_376 (fun H locs hP hS => ?_)
      refine z_topi (y := st 4) (sl_c (by decide) (by decide)) ?_
      refine lv_iload hx hb dL_change_379 (lv_at hl 4 rfl) ?_
      refine lv_iload hx hb dL_change_381 (lv_at hl 1 rfl) ?_
      refine lv_if_ne (tgt := 390) hx hb dL_change_383 (by decide) (fun c_383 => ?_) (fun c_383 => absurd c_383 hq)
      refine lv_iconst (v := 0) hx hb dL_change_390 (by decide) ?_
      refine lv_iadd hx hb dL_change_391 ?_
      refine lv_icmp_ne (tgt := 410) hx hb dL_change_392 (by decide) (fun c_392 => absurd ((Int32.add_zero _).symm) c_392) (fun c_392 => ?_)
      refine lv_aload_n hx hb dL_change_395 rfl (lv_at hl 9 rfl) ?_
      refine lv_iload_n hx hb dL_change_396 rfl (lv_at hl 8 rfl) ?_
      refine lv_iconst (v := (nI 2)) hx hb dL_change_397 (by decide) ?_
      obtain ⟨fs_398, hfs_398⟩ := hTT.rc
      refine z_Vi_eq (As := [.int (nI iz), .int (nI 2)]) (rest := []) C0 hP hS hl.1 (m_X4_cordOf l _ hTT hi (by decide) hI2.pc) lk_L_15 hTT.n0 hfs_398 rfl rfl (Nat.le_of_ble_eq_true rfl) ⟨Nat.le_of_ble_eq_true rfl, Nat.le_of_ble_eq_true rfl⟩ rfl rfl ⟨Nat.zero_le _, Nat.zero_le _⟩ dL_change_398 (fun H locs hP hS => ?_)
      refine z_topi (y := st (6 + 31 * iz + 1)) (slipF_j (by decide) (by omega)) ?_
      refine lv_iload hx hb dL_change_401 (lv_at hl 5 rfl) ?_
      refine lv_icmp_ne (tgt := 410) hx hb dL_change_403 (by decide) (fun c_403 => absurd (rfl) c_403) (fun c_403 => ?_)
      refine lv_iconst (v := 1) hx hb dL_change_406 (by decide) ?_
      refine lv_goto (tgt := 411) hx hb dL_change_407 (by decide) ?_
      exact z_zret C0 hP hS hr rfl (⟨rfl, _, _, _, _, hTT, hI2, Nat.mod_lt _ (by decide), Nat.min_le_right _ _, hFr⟩) dL_change_411
  · refine lv_tableIn (tgt := 296) hx hb dL_change_57 (by decide) (by decide) rfl (by decide) ?_
    refine lv_iload_n hx hb dL_change_296 rfl (lv_at hl 9 rfl) ?_
    refine lv_iconst (v := 4) hx hb dL_change_297 (by decide) ?_
    refine lv_ishr hx hb dL_change_298 ?_
    refine lv_bipush (v := (nI 6)) hx hb dL_change_299 (by decide) ?_
    refine z_Si_eq (As := [.int (yz >>> (4 &&& 31)), .int (nI 6)]) (rest := []) C0 hP hS hl.1 (m_L_low l _ (by decide) (by decide)) lk_L_9 rfl rfl (Nat.le_of_ble_eq_true rfl) ⟨Nat.le_of_ble_eq_true rfl, Nat.le_of_ble_eq_true rfl⟩ rfl rfl ⟨Nat.zero_le _, Nat.zero_le _⟩ dL_change_301 (fun H locs hP hS => ?_)
    obtain ⟨pz, hpz, ep⟩ := lowF_rng (yz >>> ((4 : Int32) &&& 31)) (n := 6) (by decide) (by decide)
    refine z_topi (y := nI pz) ep ?_
    refine lv_istore (lv' := [(12, .int (nI pz)), (9, .int 0), (8, .int (st 1)), (7, .int (st 4)), (6, .int (st (6 + 31 * iz + 1))), (5, .int (cTold st iz)), (4, .int (nI jz)), (3, .int (nI iz)), (0, .ref (ad 0)), (1, .int xz), (2, .int yz)]) hx hb dL_change_304 hl (by decide) rfl (fun ls hl => ?_)
    refine lv_aload_n hx hb dL_change_306 rfl (lv_at hl 8 rfl) ?_
    refine lv_iload_n hx hb dL_change_307 rfl (lv_at hl 7 rfl) ?_
    refine lv_iload hx hb dL_change_308 (lv_at hl 0 rfl) ?_
    refine lv_iconst (v := (nI 2)) hx hb dL_change_310 (by decide) ?_
    obtain ⟨fs_311, hfs_311⟩ := hTT.rc
    refine z_Vi_eq (As := [.int (nI iz), .int (nI pz), .int (nI 2)]) (rest := []) C0 hP hS hl.1 (m_X4_placeOf l _ hTT hi hpz (by decide)) lk_L_37 hTT.n0 hfs_311 rfl rfl (Nat.le_of_ble_eq_true rfl) ⟨Nat.le_of_ble_eq_true rfl, Nat.le_of_ble_eq_true rfl⟩ rfl rfl ⟨Nat.zero_le _, Nat.zero_le _⟩ dL_change_311 (fun H locs hP hS => ?_)
    refine z_topi (y := opn (fK st iz) (fL st iz) pz) rfl ?_
    refine lv_istore (lv' := [(13, .int (opn (fK st iz) (fL st iz) pz)), (12, .int (nI pz)), (9, .int 0), (8, .int (st 1)), (7, .int (st 4)), (6, .int (st (6 + 31 * iz + 1))), (5, .int (cTold st iz)), (4, .int (nI jz)), (3, .int (nI iz)), (0, .ref (ad 0)), (1, .int xz), (2, .int yz)]) hx hb dL_change_314 hl (by decide) rfl (fun ls hl => ?_)
    refine lv_aload_n hx hb dL_change_316 rfl (lv_at hl 9 rfl) ?_
    refine lv_iload_n hx hb dL_change_317 rfl (lv_at hl 8 rfl) ?_
    refine lv_iload hx hb dL_change_318 (lv_at hl 1 rfl) ?_
    refine lv_iconst (v := (nI 0)) hx hb dL_change_320 (by decide) ?_
    obtain ⟨fs_321, hfs_321⟩ := hTT.rc
    refine z_Vi_eq (As := [.int (nI iz), .int (nI pz), .int (nI 0)]) (rest := []) C0 hP hS hl.1 (m_X4_placeOf l _ hTT hi hpz (by decide)) lk_L_37 hTT.n0 hfs_321 rfl rfl (Nat.le_of_ble_eq_true rfl) ⟨Nat.le_of_ble_eq_true rfl, Nat.le_of_ble_eq_true rfl⟩ rfl rfl ⟨Nat.zero_le _, Nat.zero_le _⟩ dL_change_321 (fun H locs hP hS => ?_)
    refine z_topi (y := fK st iz pz) rfl ?_
    refine lv_istore (lv' := [(9, .int (fK st iz pz)), (13, .int (opn (fK st iz) (fL st iz) pz)), (12, .int (nI pz)), (8, .int (st 1)), (7, .int (st 4)), (6, .int (st (6 + 31 * iz + 1))), (5, .int (cTold st iz)), (4, .int (nI jz)), (3, .int (nI iz)), (0, .ref (ad 0)), (1, .int xz), (2, .int yz)]) hx hb dL_change_324 hl (by decide) rfl (fun ls hl => ?_)
    by_cases hq : opn (fK st iz) (fL st iz) pz = 0
    · refine lv_aload_n hx hb dL_change_326 rfl (lv_at hl 9 rfl) ?_
      refine lv_iload_n hx hb dL_change_327 rfl (lv_at hl 8 rfl) ?_
      refine lv_iload hx hb dL_change_328 (lv_at hl 2 rfl) ?_
      obtain ⟨fs_330, hfs_330⟩ := hTT.rc
      refine z_Vi_mo (As := [.int (nI iz), .int (nI pz)]) (rest := []) C0 hP hS hl.1 (m_X4_slip l _ hTT hi hpz hnx hsz) lk_L_41 hTT.n0 hfs_330 rfl rfl (Nat.le_of_ble_eq_true rfl) ⟨Nat.le_of_ble_eq_true rfl, Nat.le_of_ble_eq_true rfl⟩ rfl rfl ⟨Nat.zero_le _, Nat.zero_le _⟩ dL_change_330 (fun r_330 g_17 H locs hP hS hp => ?_)
      obtain ⟨hr_330, hTT, hF1⟩ := hp
      subst hr_330
      have hFr := hFr.tr (hF1.mono (by intro x9 hx9; first | (dsimp only [zOne, zRg, zCl] at hx9 ⊢; omega) | (dsimp only at hx9 ⊢; omega) | omega))
      rw [sls_T hq] at hTT
      have hI2 : pI (tz + 1) (upd st 4 (st 4 + 1)) := (hI.u4 _).mono
      refine lv_iload hx hb dL_change_333 (lv_at hl 1 rfl) ?_
      refine lv_if_ne (tgt := 342) hx hb dL_change_335 (by decide) (fun c_335 => absurd hq c_335) (fun c_335 => ?_)
      refine lv_iconst (v := (-1)) hx hb dL_change_338 (by decide) ?_
      refine lv_goto (tgt := 346) hx hb dL_change_339 (by decide) ?_
      refine lv_icmp_ne (tgt := 410) hx hb dL_change_346 (by decide) (fun c_346 => absurd (slr_T hq) c_346) (fun c_346 => ?_)
      refine lv_aload_n hx hb dL_change_349 rfl (lv_at hl 9 rfl) ?_
      refine lv_iload_n hx hb dL_change_350 rfl (lv_at hl 8 rfl) ?_
      refine lv_iload hx hb dL_change_351 (lv_at hl 2 rfl) ?_
      refine lv_iconst (v := (nI 0)) hx hb dL_change_353 (by decide) ?_
      obtain ⟨fs_354, hfs_354⟩ := hTT.rc
      refine z_Vi_eq (As := [.int (nI iz), .int (nI pz), .int (nI 0)]) (rest := []) C0 hP hS hl.1 (m_X4_placeOf l _ hTT hi hpz (by decide)) lk_L_37 hTT.n0 hfs_354 rfl rfl (Nat.le_of_ble_eq_true rfl) ⟨Nat.le_of_ble_eq_true rfl, Nat.le_of_ble_eq_true rfl⟩ rfl rfl ⟨Nat.zero_le _, Nat.zero_le _⟩ dL_change_354 (fun H locs hP hS => ?_)
      refine z_topi (y := fK st iz pz) (upd_lo (by decide) iz (19 + pz)) ?_
      refine lv_iload hx hb dL_change_357 (lv_at hl 0 rfl) ?_
      refine lv_iload hx hb dL_change_359 (lv_at hl 1 rfl) ?_
      refine lv_if_ne (tgt := 368) hx hb dL_change_361 (by decide) (fun c_361 => absurd hq c_361) (fun c_361 => ?_)
      refine lv_iconst (v := 0) hx hb dL_change_364 (by decide) ?_
      refine lv_goto (tgt := 369) hx hb dL_change_365 (by decide) ?_
      refine lv_isub hx hb dL_change_369 ?_
      refine lv_icmp_ne (tgt := 410) hx hb dL_change_370 (by decide) (fun c_370 => absurd ((sub_0 _).symm) c_370) (fun c_370 => ?_)
      refine lv_aload_n hx hb dL_change_373 rfl (lv_at hl 9 rfl) ?_
      refine lv_bipush (v := (nI 6)) hx hb dL_change_374 (by decide) ?_
      obtain ⟨fs_376, hfs_376⟩ := hTT.rc
      refine z_Vi_eq (As := [.int (nI 6)]) (rest := []) C0 hP hS hl.1 (m_X4_count l _ hTT (by decide) hI2.pc) lk_L_20 hTT.n0 hfs_376 rfl rfl (Nat.le_of_ble_eq_true rfl) ⟨Nat.le_of_ble_eq_true rfl, Nat.le_of_ble_eq_true rfl⟩ rfl rfl ⟨Nat.zero_le _, Nat.zero_le _⟩ dL_change_376 (fun H locs hP hS => ?_)
      refine z_topi (y := st 4 + 1) upd4_4 ?_
      refine lv_iload hx hb dL_change_379 (lv_at hl 4 rfl) ?_
      refine lv_iload hx hb dL_change_381 (lv_at hl 1 rfl) ?_
      refine lv_if_ne (tgt := 390) hx hb dL_change_383 (by decide) (fun c_383 => absurd hq c_383) (fun c_383 => ?_)
      refine lv_iconst (v := 1) hx hb dL_change_386 (by decide) ?_
      refine lv_goto (tgt := 391) hx hb dL_change_387 (by decide) ?_
      refine lv_iadd hx hb dL_change_391 ?_
      refine lv_icmp_ne (tgt := 410) hx hb dL_change_392 (by decide) (fun c_392 => absurd (rfl) c_392) (fun c_392 => ?_)
      refine lv_aload_n hx hb dL_change_395 rfl (lv_at hl 9 rfl) ?_
      refine lv_iload_n hx hb dL_change_396 rfl (lv_at hl 8 rfl) ?_
      refine lv_iconst (v := (nI 2)) hx hb dL_change_397 (by decide) ?_
      obtain ⟨fs_398, hfs_398⟩ := hTT.rc
      refine z_Vi_eq (As := [.int (nI iz), .int (nI 2)]) (rest := []) C0 hP hS hl.1 (m_X4_cordOf l _ hTT hi (by decide) hI2.pc) lk_L_15 hTT.n0 hfs_398 rfl rfl (Nat.le_of_ble_eq_true rfl) ⟨Nat.le_of_ble_eq_true rfl, Nat.le_of_ble_eq_true rfl⟩ rfl rfl ⟨Nat.zero_le _, Nat.zero_le _⟩ dL_change_398 (fun H locs hP hS => ?_)
      refine z_topi (y := st (6 + 31 * iz + 1)) (upd_lo (by decide) iz 1) ?_
      refine lv_iload hx hb dL_change_401 (lv_at hl 5 rfl) ?_
      refine lv_icmp_ne (tgt := 410) hx hb dL_change_403 (by decide) (fun c_403 => absurd (rfl) c_403) (fun c_403 => ?_)
      refine lv_iconst (v := 1) hx hb dL_change_406 (by decide) ?_
      refine lv_goto (tgt := 411) hx hb dL_change_407 (by decide) ?_
      exact z_zret C0 hP hS hr rfl (⟨rfl, _, _, _, _, hTT, hI2, Nat.mod_lt _ (by decide), Nat.min_le_right _ _, hFr⟩) dL_change_411
    · refine lv_aload_n hx hb dL_change_326 rfl (lv_at hl 9 rfl) ?_
      refine lv_iload_n hx hb dL_change_327 rfl (lv_at hl 8 rfl) ?_
      refine lv_iload hx hb dL_change_328 (lv_at hl 2 rfl) ?_
      obtain ⟨fs_330, hfs_330⟩ := hTT.rc
      refine z_Vi_mo (As := [.int (nI iz), .int (nI pz)]) (rest := []) C0 hP hS hl.1 (m_X4_slip l _ hTT hi hpz hnx hsz) lk_L_41 hTT.n0 hfs_330 rfl rfl (Nat.le_of_ble_eq_true rfl) ⟨Nat.le_of_ble_eq_true rfl, Nat.le_of_ble_eq_true rfl⟩ rfl rfl ⟨Nat.zero_le _, Nat.zero_le _⟩ dL_change_330 (fun r_330 g_18 H locs hP hS hp => ?_)
      obtain ⟨hr_330, hTT, hF1⟩ := hp
      subst hr_330
      have hFr := hFr.tr (hF1.mono (by intro x9 hx9; first | (dsimp only [zOne, zRg, zCl] at hx9 ⊢; omega) | (dsimp only at hx9 ⊢; omega) | omega))
      rw [sls_F hq] at hTT
      have hI2 : pI (tz + 1) (slipF st iz pz) := by have h9 := hI.ss ht hi hpz; rw [sls_F hq] at h9; exact h9
      refine lv_iload hx hb dL_change_333 (lv_at hl 1 rfl) ?_
      refine lv_if_ne (tgt := 342) hx hb dL_change_335 (by decide) (fun c_335 => ?_) (fun c_335 => absurd c_335 hq)
      refine lv_iload hx hb dL_change_342 (lv_at hl 1 rfl) ?_
      refine lv_iconst (v := 1) hx hb dL_change_344 (by decide) ?_
      refine lv_isub hx hb dL_change_345 ?_
      refine lv_icmp_ne (tgt := 410) hx hb dL_change_346 (by decide) (fun c_346 => absurd (slr_F hq) c_346) (fun c_346 => ?_)
      refine lv_aload_n hx hb dL_change_349 rfl (lv_at hl 9 rfl) ?_
      refine lv_iload_n hx hb dL_change_350 rfl (lv_at hl 8 rfl) ?_
      refine lv_iload hx hb dL_change_351 (lv_at hl 2 rfl) ?_
      refine lv_iconst (v := (nI 0)) hx hb dL_change_353 (by decide) ?_
      obtain ⟨fs_354, hfs_354⟩ := hTT.rc
      refine z_Vi_eq (As := [.int (nI iz), .int (nI pz), .int (nI 0)]) (rest := []) C0 hP hS hl.1 (m_X4_placeOf l _ hTT hi hpz (by decide)) lk_L_37 hTT.n0 hfs_354 rfl rfl (Nat.le_of_ble_eq_true rfl) ⟨Nat.le_of_ble_eq_true rfl, Nat.le_of_ble_eq_true rfl⟩ rfl rfl ⟨Nat.zero_le _, Nat.zero_le _⟩ dL_change_354 (fun H locs hP hS => ?_)
      refine z_topi (y := fK st iz pz - 1) sl_k ?_
      refine lv_iload hx hb dL_change_357 (lv_at hl 0 rfl) ?_
      refine lv_iload hx hb dL_change_359 (lv_at hl 1 rfl) ?_
      refine lv_if_ne (tgt := 368) hx hb dL_change_361 (by decide) (fun c_361 => ?_) (fun c_361 => absurd c_361 hq)
      refine lv_iconst (v := 1) hx hb dL_change_368 (by decide) ?_
      refine lv_isub hx hb dL_change_369 ?_
      refine lv_icmp_ne (tgt := 410) hx hb dL_change_370 (by decide) (fun c_370 => absurd (rfl) c_370) (fun c_370 => ?_)
      refine lv_aload_n hx hb dL_change_373 rfl (lv_at hl 9 rfl) ?_
      refine lv_bipush (v := (nI 6)) hx hb dL_change_374 (by decide) ?_
      obtain ⟨fs_376, hfs_376⟩ := hTT.rc
      refine z_Vi_eq (As := [.int (nI 6)]) (rest := []) C0 hP hS hl.1 (m_X4_count l _ hTT (by decide) hI2.pc) lk_L_20 hTT.n0 hfs_376 rfl rfl (Nat.le_of_ble_eq_true rfl) ⟨Nat.le_of_ble_eq_true rfl, Nat.le_of_ble_eq_true rfl⟩ rfl rfl ⟨Nat.zero_le _, Nat.zero_le _⟩ dL_change_376 (fun H locs hP hS => ?_)
      refine z_topi (y := st 4) (sl_c (by decide) (by decide)) ?_
      refine lv_iload hx hb dL_change_379 (lv_at hl 4 rfl) ?_
      refine lv_iload hx hb dL_change_381 (lv_at hl 1 rfl) ?_
      refine lv_if_ne (tgt := 390) hx hb dL_change_383 (by decide) (fun c_383 => ?_) (fun c_383 => absurd c_383 hq)
      refine lv_iconst (v := 0) hx hb dL_change_390 (by decide) ?_
      refine lv_iadd hx hb dL_change_391 ?_
      refine lv_icmp_ne (tgt := 410) hx hb dL_change_392 (by decide) (fun c_392 => absurd ((Int32.add_zero _).symm) c_392) (fun c_392 => ?_)
      refine lv_aload_n hx hb dL_change_395 rfl (lv_at hl 9 rfl) ?_
      refine lv_iload_n hx hb dL_change_396 rfl (lv_at hl 8 rfl) ?_
      refine lv_iconst (v := (nI 2)) hx hb dL_change_397 (by decide) ?_
      obtain ⟨fs_398, hfs_398⟩ := hTT.rc
      refine z_Vi_eq (As := [.int (nI iz), .int (nI 2)]) (rest := []) C0 hP hS hl.1 (m_X4_cordOf l _ hTT hi (by decide) hI2.pc) lk_L_15 hTT.n0 hfs_398 rfl rfl (Nat.le_of_ble_eq_true rfl) ⟨Nat.le_of_ble_eq_true rfl, Nat.le_of_ble_eq_true rfl⟩ rfl rfl ⟨Nat.zero_le _, Nat.zero_le _⟩ dL_change_398 (fun H locs hP hS => ?_)
      refine z_topi (y := st (6 + 31 * iz + 1)) (slipF_j (by decide) (by omega)) ?_
      refine lv_iload hx hb dL_change_401 (lv_at hl 5 rfl) ?_
      refine lv_icmp_ne (tgt := 410) hx hb dL_change_403 (by decide) (fun c_403 => absurd (rfl) c_403) (fun c_403 => ?_)
      refine lv_iconst (v := 1) hx hb dL_change_406 (by decide) ?_
      refine lv_goto (tgt := 411) hx hb dL_change_407 (by decide) ?_
      exact z_zret C0 hP hS hr rfl (⟨rfl, _, _, _, _, hTT, hI2, Nat.mod_lt _ (by decide), Nat.min_le_right _ _, hFr⟩) dL_change_411
  · refine lv_tableIn (tgt := 412) hx hb dL_change_57 (by decide) (by decide) rfl (by decide) ?_
    refine lv_aload_n hx hb dL_change_412 rfl (lv_at hl 7 rfl) ?_
    refine lv_iload_n hx hb dL_change_413 rfl (lv_at hl 6 rfl) ?_
    refine lv_iconst (v := (nI 3)) hx hb dL_change_414 (by decide) ?_
    obtain ⟨fs_415, hfs_415⟩ := hTT.rc
    refine z_Vi_eq (As := [.int (nI iz), .int (nI 3)]) (rest := []) C0 hP hS hl.1 (m_X4_cordOf l _ hTT hi (by decide) hI.pc) lk_L_15 hTT.n0 hfs_415 rfl rfl (Nat.le_of_ble_eq_true rfl) ⟨Nat.le_of_ble_eq_true rfl, Nat.le_of_ble_eq_true rfl⟩ rfl rfl ⟨Nat.zero_le _, Nat.zero_le _⟩ dL_change_415 (fun H locs hP hS => ?_)
    refine z_topi (y := cLack st iz) rfl ?_
    refine lv_istore (lv' := [(14, .int (cLack st iz)), (9, .int 0), (8, .int (st 1)), (7, .int (st 4)), (6, .int (st (6 + 31 * iz + 1))), (5, .int (cTold st iz)), (4, .int (nI jz)), (3, .int (nI iz)), (0, .ref (ad 0)), (1, .int xz), (2, .int yz)]) hx hb dL_change_418 hl (by decide) rfl (fun ls hl => ?_)
    refine lv_aload_n hx hb dL_change_420 rfl (lv_at hl 8 rfl) ?_
    refine lv_iload_n hx hb dL_change_421 rfl (lv_at hl 7 rfl) ?_
    obtain ⟨fs_422, hfs_422⟩ := hTT.rc
    refine z_Vi_mo (As := [.int (nI iz)]) (rest := []) C0 hP hS hl.1 (m_X4_mend l _ hTT hi hI.pc hnx hsz) lk_L_44 hTT.n0 hfs_422 rfl rfl (Nat.le_of_ble_eq_true rfl) ⟨Nat.le_of_ble_eq_true rfl, Nat.le_of_ble_eq_true rfl⟩ rfl rfl ⟨Nat.zero_le _, Nat.zero_le _⟩ dL_change_422 (fun r_422 g_19 H locs hP hS hp => ?_)
    obtain ⟨hr_422, hTT, hF1⟩ := hp
    subst hr_422
    have hFr := hFr.tr (hF1.mono (by intro x9 hx9; first | (dsimp only [zOne, zRg, zCl] at hx9 ⊢; omega) | (dsimp only at hx9 ⊢; omega) | omega))
    have hI2 : pI tz (mendS st iz) := hI.ms hi
    refine lv_istore (lv' := [(9, .int (mendR st iz)), (14, .int (cLack st iz)), (8, .int (st 1)), (7, .int (st 4)), (6, .int (st (6 + 31 * iz + 1))), (5, .int (cTold st iz)), (4, .int (nI jz)), (3, .int (nI iz)), (0, .ref (ad 0)), (1, .int xz), (2, .int yz)]) hx hb dL_change_425 hl (by decide) rfl (fun ls hl => ?_)
    refine lv_iload hx hb dL_change_427 (lv_at hl 0 rfl) ?_
    refine lv_iload hx hb dL_change_429 (lv_at hl 1 rfl) ?_
    refine lv_icmp_ne (tgt := 461) hx hb dL_change_431 (by decide) (fun c_431 => ?_) (fun c_431 => ?_)
    · have hmd := md_T c_431
      rw [hmd.1] at hTT
      have hI2 : pI tz (upd st 4 (st 4 + 1)) := hI.u4 _
      refine lv_iload hx hb dL_change_461 (lv_at hl 0 rfl) ?_
      refine lv_iconst (v := (-1)) hx hb dL_change_463 (by decide) ?_
      refine lv_icmp_eq (tgt := 474) hx hb dL_change_464 (by decide) (fun c_464 => ?_) (fun c_464 => ?_)
      · refine lv_aload_n hx hb dL_change_474 rfl (lv_at hl 8 rfl) ?_
        refine lv_iload_n hx hb dL_change_475 rfl (lv_at hl 7 rfl) ?_
        refine lv_iconst (v := (nI 3)) hx hb dL_change_476 (by decide) ?_
        obtain ⟨fs_477, hfs_477⟩ := hTT.rc
        refine z_Vi_eq (As := [.int (nI iz), .int (nI 3)]) (rest := []) C0 hP hS hl.1 (m_X4_cordOf l _ hTT hi (by decide) hI2.pc) lk_L_15 hTT.n0 hfs_477 rfl rfl (Nat.le_of_ble_eq_true rfl) ⟨Nat.le_of_ble_eq_true rfl, Nat.le_of_ble_eq_true rfl⟩ rfl rfl ⟨Nat.zero_le _, Nat.zero_le _⟩ dL_change_477 (fun H locs hP hS => ?_)
        refine z_topi (y := cLack st iz) (u4_lack hI.1 hi _) ?_
        refine lv_iload hx hb dL_change_480 (lv_at hl 1 rfl) ?_
        refine lv_icmp_ne (tgt := 513) hx hb dL_change_482 (by decide) (fun c_482 => absurd (rfl) c_482) (fun c_482 => ?_)
        refine lv_aload_n hx hb dL_change_485 rfl (lv_at hl 8 rfl) ?_
        refine lv_bipush (v := (nI 6)) hx hb dL_change_486 (by decide) ?_
        obtain ⟨fs_488, hfs_488⟩ := hTT.rc
        refine z_Vi_eq (As := [.int (nI 6)]) (rest := []) C0 hP hS hl.1 (m_X4_count l _ hTT (by decide) hI2.pc) lk_L_20 hTT.n0 hfs_488 rfl rfl (Nat.le_of_ble_eq_true rfl) ⟨Nat.le_of_ble_eq_true rfl, Nat.le_of_ble_eq_true rfl⟩ rfl rfl ⟨Nat.zero_le _, Nat.zero_le _⟩ dL_change_488 (fun H locs hP hS => ?_)
        refine z_topi (y := st 4 + 1) upd4_4 ?_
        refine lv_iload hx hb dL_change_491 (lv_at hl 3 rfl) ?_
        refine lv_iconst (v := 1) hx hb dL_change_493 (by decide) ?_
        refine lv_iadd hx hb dL_change_494 ?_
        refine lv_icmp_ne (tgt := 513) hx hb dL_change_495 (by decide) (fun c_495 => absurd (rfl) c_495) (fun c_495 => ?_)
        refine lv_aload_n hx hb dL_change_498 rfl (lv_at hl 8 rfl) ?_
        refine lv_iload_n hx hb dL_change_499 rfl (lv_at hl 7 rfl) ?_
        refine lv_iconst (v := (nI 2)) hx hb dL_change_500 (by decide) ?_
        obtain ⟨fs_501, hfs_501⟩ := hTT.rc
        refine z_Vi_eq (As := [.int (nI iz), .int (nI 2)]) (rest := []) C0 hP hS hl.1 (m_X4_cordOf l _ hTT hi (by decide) hI2.pc) lk_L_15 hTT.n0 hfs_501 rfl rfl (Nat.le_of_ble_eq_true rfl) ⟨Nat.le_of_ble_eq_true rfl, Nat.le_of_ble_eq_true rfl⟩ rfl rfl ⟨Nat.zero_le _, Nat.zero_le _⟩ dL_change_501 (fun H locs hP hS => ?_)
        refine z_topi (y := st (6 + 31 * iz + 1)) (upd_lo (by decide) iz 1) ?_
        refine lv_iload hx hb dL_change_504 (lv_at hl 4 rfl) ?_
        refine lv_icmp_ne (tgt := 513) hx hb dL_change_506 (by decide) (fun c_506 => absurd (rfl) c_506) (fun c_506 => ?_)
        refine lv_iconst (v := 1) hx hb dL_change_509 (by decide) ?_
        refine lv_goto (tgt := 514) hx hb dL_change_510 (by decide) ?_
        exact z_zret C0 hP hS hr rfl (⟨rfl, _, _, _, _, hTT, hI2.mono, Nat.mod_lt _ (by decide), Nat.min_le_right _ _, hFr⟩) dL_change_514
      · refine lv_iload hx hb dL_change_467 (lv_at hl 0 rfl) ?_
        refine lv_bipush (v := (-2)) hx hb dL_change_469 (by decide) ?_
        refine lv_icmp_ne (tgt := 513) hx hb dL_change_471 (by decide) (fun c_471 => absurd (hmd.2.resolve_left c_464) c_471) (fun c_471 => ?_)
        refine lv_aload_n hx hb dL_change_474 rfl (lv_at hl 8 rfl) ?_
        refine lv_iload_n hx hb dL_change_475 rfl (lv_at hl 7 rfl) ?_
        refine lv_iconst (v := (nI 3)) hx hb dL_change_476 (by decide) ?_
        obtain ⟨fs_477, hfs_477⟩ := hTT.rc
        refine z_Vi_eq (As := [.int (nI iz), .int (nI 3)]) (rest := []) C0 hP hS hl.1 (m_X4_cordOf l _ hTT hi (by decide) hI2.pc) lk_L_15 hTT.n0 hfs_477 rfl rfl (Nat.le_of_ble_eq_true rfl) ⟨Nat.le_of_ble_eq_true rfl, Nat.le_of_ble_eq_true rfl⟩ rfl rfl ⟨Nat.zero_le _, Nat.zero_le _⟩ dL_change_477 (fun H locs hP hS => ?_)
        refine z_topi (y := cLack st iz) (u4_lack hI.1 hi _) ?_
        refine lv_iload hx hb dL_change_480 (lv_at hl 1 rfl) ?_
        refine lv_icmp_ne (tgt := 513) hx hb dL_change_482 (by decide) (fun c_482 => absurd (rfl) c_482) (fun c_482 => ?_)
        refine lv_aload_n hx hb dL_change_485 rfl (lv_at hl 8 rfl) ?_
        refine lv_bipush (v := (nI 6)) hx hb dL_change_486 (by decide) ?_
        obtain ⟨fs_488, hfs_488⟩ := hTT.rc
        refine z_Vi_eq (As := [.int (nI 6)]) (rest := []) C0 hP hS hl.1 (m_X4_count l _ hTT (by decide) hI2.pc) lk_L_20 hTT.n0 hfs_488 rfl rfl (Nat.le_of_ble_eq_true rfl) ⟨Nat.le_of_ble_eq_true rfl, Nat.le_of_ble_eq_true rfl⟩ rfl rfl ⟨Nat.zero_le _, Nat.zero_le _⟩ dL_change_488 (fun H locs hP hS => ?_)
        refine z_topi (y := st 4 + 1) upd4_4 ?_
        refine lv_iload hx hb dL_change_491 (lv_at hl 3 rfl) ?_
        refine lv_iconst (v := 1) hx hb dL_change_493 (by decide) ?_
        refine lv_iadd hx hb dL_change_494 ?_
        refine lv_icmp_ne (tgt := 513) hx hb dL_change_495 (by decide) (fun c_495 => absurd (rfl) c_495) (fun c_495 => ?_)
        refine lv_aload_n hx hb dL_change_498 rfl (lv_at hl 8 rfl) ?_
        refine lv_iload_n hx hb dL_change_499 rfl (lv_at hl 7 rfl) ?_
        refine lv_iconst (v := (nI 2)) hx hb dL_change_500 (by decide) ?_
        obtain ⟨fs_501, hfs_501⟩ := hTT.rc
        refine z_Vi_eq (As := [.int (nI iz), .int (nI 2)]) (rest := []) C0 hP hS hl.1 (m_X4_cordOf l _ hTT hi (by decide) hI2.pc) lk_L_15 hTT.n0 hfs_501 rfl rfl (Nat.le_of_ble_eq_true rfl) ⟨Nat.le_of_ble_eq_true rfl, Nat.le_of_ble_eq_true rfl⟩ rfl rfl ⟨Nat.zero_le _, Nat.zero_le _⟩ dL_change_501 (fun H locs hP hS => ?_)
        refine z_topi (y := st (6 + 31 * iz + 1)) (upd_lo (by decide) iz 1) ?_
        refine lv_iload hx hb dL_change_504 (lv_at hl 4 rfl) ?_
        refine lv_icmp_ne (tgt := 513) hx hb dL_change_506 (by decide) (fun c_506 => absurd (rfl) c_506) (fun c_506 => ?_)
        refine lv_iconst (v := 1) hx hb dL_change_509 (by decide) ?_
        refine lv_goto (tgt := 514) hx hb dL_change_510 (by decide) ?_
        exact z_zret C0 hP hS hr rfl (⟨rfl, _, _, _, _, hTT, hI2.mono, Nat.mod_lt _ (by decide), Nat.min_le_right _ _, hFr⟩) dL_change_514
    · have hmd := md_F hI.1 hi c_431
      refine lv_aload_n hx hb dL_change_434 rfl (lv_at hl 8 rfl) ?_
      refine lv_iload_n hx hb dL_change_435 rfl (lv_at hl 7 rfl) ?_
      refine lv_iconst (v := (nI 3)) hx hb dL_change_436 (by decide) ?_
      obtain ⟨fs_437, hfs_437⟩ := hTT.rc
      refine z_Vi_eq (As := [.int (nI iz), .int (nI 3)]) (rest := []) C0 hP hS hl.1 (m_X4_cordOf l _ hTT hi (by decide) hI2.pc) lk_L_15 hTT.n0 hfs_437 rfl rfl (Nat.le_of_ble_eq_true rfl) ⟨Nat.le_of_ble_eq_true rfl, Nat.le_of_ble_eq_true rfl⟩ rfl rfl ⟨Nat.zero_le _, Nat.zero_le _⟩ dL_change_437 (fun H locs hP hS => ?_)
      refine z_topi (y := 0) hmd.1 ?_
      refine lv_if_ne (tgt := 513) hx hb dL_change_440 (by decide) (fun c_440 => absurd c_440 (by decide)) (fun c_440 => ?_)
      refine lv_aload_n hx hb dL_change_443 rfl (lv_at hl 8 rfl) ?_
      refine lv_iload_n hx hb dL_change_444 rfl (lv_at hl 7 rfl) ?_
      refine lv_iconst (v := (nI 0)) hx hb dL_change_445 (by decide) ?_
      obtain ⟨fs_446, hfs_446⟩ := hTT.rc
      refine z_Vi_eq (As := [.int (nI iz), .int (nI 0)]) (rest := []) C0 hP hS hl.1 (m_X4_cordOf l _ hTT hi (by decide) hI2.pc) lk_L_15 hTT.n0 hfs_446 rfl rfl (Nat.le_of_ble_eq_true rfl) ⟨Nat.le_of_ble_eq_true rfl, Nat.le_of_ble_eq_true rfl⟩ rfl rfl ⟨Nat.zero_le _, Nat.zero_le _⟩ dL_change_446 (fun H locs hP hS => ?_)
      refine lv_aload_n hx hb dL_change_449 rfl (lv_at hl 8 rfl) ?_
      refine lv_iload_n hx hb dL_change_450 rfl (lv_at hl 7 rfl) ?_
      refine lv_iconst (v := (nI 1)) hx hb dL_change_451 (by decide) ?_
      obtain ⟨fs_452, hfs_452⟩ := hTT.rc
      refine z_Vi_eq (As := [.int (nI iz), .int (nI 1)]) (rest := [.int (cordF (mendS st iz) iz 0)]) C0 hP hS hl.1 (m_X4_cordOf l _ hTT hi (by decide) hI2.pc) lk_L_15 hTT.n0 hfs_452 rfl rfl (Nat.le_of_ble_eq_true rfl) ⟨Nat.le_of_ble_eq_true rfl, Nat.le_of_ble_eq_true rfl⟩ rfl rfl ⟨Nat.zero_le _, Nat.zero_le _⟩ dL_change_452 (fun H locs hP hS => ?_)
      refine lv_icmp_ne (tgt := 513) hx hb dL_change_455 (by decide) (fun c_455 => absurd hmd.2 c_455) (fun c_455 => ?_)
      refine lv_goto (tgt := 498) hx hb dL_change_458 (by decide) ?_
      refine lv_aload_n hx hb dL_change_498 rfl (lv_at hl 8 rfl) ?_
      refine lv_iload_n hx hb dL_change_499 rfl (lv_at hl 7 rfl) ?_
      refine lv_iconst (v := (nI 2)) hx hb dL_change_500 (by decide) ?_
      obtain ⟨fs_501, hfs_501⟩ := hTT.rc
      refine z_Vi_eq (As := [.int (nI iz), .int (nI 2)]) (rest := []) C0 hP hS hl.1 (m_X4_cordOf l _ hTT hi (by decide) hI2.pc) lk_L_15 hTT.n0 hfs_501 rfl rfl (Nat.le_of_ble_eq_true rfl) ⟨Nat.le_of_ble_eq_true rfl, Nat.le_of_ble_eq_true rfl⟩ rfl rfl ⟨Nat.zero_le _, Nat.zero_le _⟩ dL_change_501 (fun H locs hP hS => ?_)
      refine z_topi (y := st (6 + 31 * iz + 1)) md_2 ?_
      refine lv_iload hx hb dL_change_504 (lv_at hl 4 rfl) ?_
      refine lv_icmp_ne (tgt := 513) hx hb dL_change_506 (by decide) (fun c_506 => absurd (rfl) c_506) (fun c_506 => ?_)
      refine lv_iconst (v := 1) hx hb dL_change_509 (by decide) ?_
      refine lv_goto (tgt := 514) hx hb dL_change_510 (by decide) ?_
      exact z_zret C0 hP hS hr rfl (⟨rfl, _, _, _, _, hTT, hI2.mono, Nat.mod_lt _ (by decide), Nat.min_le_right _ _, hFr⟩) dL_change_514
  · refine lv_tableIn (tgt := 412) hx hb dL_change_57 (by decide) (by decide) rfl (by decide) ?_
    refine lv_aload_n hx hb dL_change_412 rfl (lv_at hl 7 rfl) ?_
    refine lv_iload_n hx hb dL_change_413 rfl (lv_at hl 6 rfl) ?_
    refine lv_iconst (v := (nI 3)) hx hb dL_change_414 (by decide) ?_
    obtain ⟨fs_415, hfs_415⟩ := hTT.rc
    refine z_Vi_eq (As := [.int (nI iz), .int (nI 3)]) (rest := []) C0 hP hS hl.1 (m_X4_cordOf l _ hTT hi (by decide) hI.pc) lk_L_15 hTT.n0 hfs_415 rfl rfl (Nat.le_of_ble_eq_true rfl) ⟨Nat.le_of_ble_eq_true rfl, Nat.le_of_ble_eq_true rfl⟩ rfl rfl ⟨Nat.zero_le _, Nat.zero_le _⟩ dL_change_415 (fun H locs hP hS => ?_)
    refine z_topi (y := cLack st iz) rfl ?_
    refine lv_istore (lv' := [(14, .int (cLack st iz)), (9, .int 0), (8, .int (st 1)), (7, .int (st 4)), (6, .int (st (6 + 31 * iz + 1))), (5, .int (cTold st iz)), (4, .int (nI jz)), (3, .int (nI iz)), (0, .ref (ad 0)), (1, .int xz), (2, .int yz)]) hx hb dL_change_418 hl (by decide) rfl (fun ls hl => ?_)
    refine lv_aload_n hx hb dL_change_420 rfl (lv_at hl 8 rfl) ?_
    refine lv_iload_n hx hb dL_change_421 rfl (lv_at hl 7 rfl) ?_
    obtain ⟨fs_422, hfs_422⟩ := hTT.rc
    refine z_Vi_mo (As := [.int (nI iz)]) (rest := []) C0 hP hS hl.1 (m_X4_mend l _ hTT hi hI.pc hnx hsz) lk_L_44 hTT.n0 hfs_422 rfl rfl (Nat.le_of_ble_eq_true rfl) ⟨Nat.le_of_ble_eq_true rfl, Nat.le_of_ble_eq_true rfl⟩ rfl rfl ⟨Nat.zero_le _, Nat.zero_le _⟩ dL_change_422 (fun r_422 g_20 H locs hP hS hp => ?_)
    obtain ⟨hr_422, hTT, hF1⟩ := hp
    subst hr_422
    have hFr := hFr.tr (hF1.mono (by intro x9 hx9; first | (dsimp only [zOne, zRg, zCl] at hx9 ⊢; omega) | (dsimp only at hx9 ⊢; omega) | omega))
    have hI2 : pI tz (mendS st iz) := hI.ms hi
    refine lv_istore (lv' := [(9, .int (mendR st iz)), (14, .int (cLack st iz)), (8, .int (st 1)), (7, .int (st 4)), (6, .int (st (6 + 31 * iz + 1))), (5, .int (cTold st iz)), (4, .int (nI jz)), (3, .int (nI iz)), (0, .ref (ad 0)), (1, .int xz), (2, .int yz)]) hx hb dL_change_425 hl (by decide) rfl (fun ls hl => ?_)
    refine lv_iload hx hb dL_change_427 (lv_at hl 0 rfl) ?_
    refine lv_iload hx hb dL_change_429 (lv_at hl 1 rfl) ?_
    refine lv_icmp_ne (tgt := 461) hx hb dL_change_431 (by decide) (fun c_431 => ?_) (fun c_431 => ?_)
    · have hmd := md_T c_431
      rw [hmd.1] at hTT
      have hI2 : pI tz (upd st 4 (st 4 + 1)) := hI.u4 _
      refine lv_iload hx hb dL_change_461 (lv_at hl 0 rfl) ?_
      refine lv_iconst (v := (-1)) hx hb dL_change_463 (by decide) ?_
      refine lv_icmp_eq (tgt := 474) hx hb dL_change_464 (by decide) (fun c_464 => ?_) (fun c_464 => ?_)
      · refine lv_aload_n hx hb dL_change_474 rfl (lv_at hl 8 rfl) ?_
        refine lv_iload_n hx hb dL_change_475 rfl (lv_at hl 7 rfl) ?_
        refine lv_iconst (v := (nI 3)) hx hb dL_change_476 (by decide) ?_
        obtain ⟨fs_477, hfs_477⟩ := hTT.rc
        refine z_Vi_eq (As := [.int (nI iz), .int (nI 3)]) (rest := []) C0 hP hS hl.1 (m_X4_cordOf l _ hTT hi (by decide) hI2.pc) lk_L_15 hTT.n0 hfs_477 rfl rfl (Nat.le_of_ble_eq_true rfl) ⟨Nat.le_of_ble_eq_true rfl, Nat.le_of_ble_eq_true rfl⟩ rfl rfl ⟨Nat.zero_le _, Nat.zero_le _⟩ dL_change_477 (fun H locs hP hS => ?_)
        refine z_topi (y := cLack st iz) (u4_lack hI.1 hi _) ?_
        refine lv_iload hx hb dL_change_480 (lv_at hl 1 rfl) ?_
        refine lv_icmp_ne (tgt := 513) hx hb dL_change_482 (by decide) (fun c_482 => absurd (rfl) c_482) (fun c_482 => ?_)
        refine lv_aload_n hx hb dL_change_485 rfl (lv_at hl 8 rfl) ?_
        refine lv_bipush (v := (nI 6)) hx hb dL_change_486 (by decide) ?_
        obtain ⟨fs_488, hfs_488⟩ := hTT.rc
        refine z_Vi_eq (As := [.int (nI 6)]) (rest := []) C0 hP hS hl.1 (m_X4_count l _ hTT (by decide) hI2.pc) lk_L_20 hTT.n0 hfs_488 rfl rfl (Nat.le_of_ble_eq_true rfl) ⟨Nat.le_of_ble_eq_true rfl, Nat.le_of_ble_eq_true rfl⟩ rfl rfl ⟨Nat.zero_le _, Nat.zero_le _⟩ dL_change_488 (fun H locs hP hS => ?_)
        refine z_topi (y := st 4 + 1) upd4_4 ?_
        refine lv_iload hx hb dL_change_491 (lv_at hl 3 rfl) ?_
        refine lv_iconst (v := 1) hx hb dL_change_493 (by decide) ?_
        refine lv_iadd hx hb dL_change_494 ?_
        refine lv_icmp_ne (tgt := 513) hx hb dL_change_495 (by decide) (fun c_495 => absurd (rfl) c_495) (fun c_495 => ?_)
        refine lv_aload_n hx hb dL_change_498 rfl (lv_at hl 8 rfl) ?_
        refine lv_iload_n hx hb dL_change_499 rfl (lv_at hl 7 rfl) ?_
        refine lv_iconst (v := (nI 2)) hx hb dL_change_500 (by decide) ?_
        obtain ⟨fs_501, hfs_501⟩ := hTT.rc
        refine z_Vi_eq (As := [.int (nI iz), .int (nI 2)]) (rest := []) C0 hP hS hl.1 (m_X4_cordOf l _ hTT hi (by decide) hI2.pc) lk_L_15 hTT.n0 hfs_501 rfl rfl (Nat.le_of_ble_eq_true rfl) ⟨Nat.le_of_ble_eq_true rfl, Nat.le_of_ble_eq_true rfl⟩ rfl rfl ⟨Nat.zero_le _, Nat.zero_le _⟩ dL_change_501 (fun H locs hP hS => ?_)
        refine z_topi (y := st (6 + 31 * iz + 1)) (upd_lo (by decide) iz 1) ?_
        refine lv_iload hx hb dL_change_504 (lv_at hl 4 rfl) ?_
        refine lv_icmp_ne (tgt := 513) hx hb dL_change_506 (by decide) (fun c_506 => absurd (rfl) c_506) (fun c_506 => ?_)
        refine lv_iconst (v := 1) hx hb dL_change_509 (by decide) ?_
        refine lv_goto (tgt := 514) hx hb dL_change_510 (by decide) ?_
        exact z_zret C0 hP hS hr rfl (⟨rfl, _, _, _, _, hTT, hI2.mono, Nat.mod_lt _ (by decide), Nat.min_le_right _ _, hFr⟩) dL_change_514
      · refine lv_iload hx hb dL_change_467 (lv_at hl 0 rfl) ?_
        refine lv_bipush (v := (-2)) hx hb dL_change_469 (by decide) ?_
        refine lv_icmp_ne (tgt := 513) hx hb dL_change_471 (by decide) (fun c_471 => absurd (hmd.2.resolve_left c_464) c_471) (fun c_471 => ?_)
        refine lv_aload_n hx hb dL_change_474 rfl (lv_at hl 8 rfl) ?_
        refine lv_iload_n hx hb dL_change_475 rfl (lv_at hl 7 rfl) ?_
        refine lv_iconst (v := (nI 3)) hx hb dL_change_476 (by decide) ?_
        obtain ⟨fs_477, hfs_477⟩ := hTT.rc
        refine z_Vi_eq (As := [.int (nI iz), .int (nI 3)]) (rest := []) C0 hP hS hl.1 (m_X4_cordOf l _ hTT hi (by decide) hI2.pc) lk_L_15 hTT.n0 hfs_477 rfl rfl (Nat.le_of_ble_eq_true rfl) ⟨Nat.le_of_ble_eq_true rfl, Nat.le_of_ble_eq_true rfl⟩ rfl rfl ⟨Nat.zero_le _, Nat.zero_le _⟩ dL_change_477 (fun H locs hP hS => ?_)
        refine z_topi (y := cLack st iz) (u4_lack hI.1 hi _) ?_
        refine lv_iload hx hb dL_change_480 (lv_at hl 1 rfl) ?_
        refine lv_icmp_ne (tgt := 513) hx hb dL_change_482 (by decide) (fun c_482 => absurd (rfl) c_482) (fun c_482 => ?_)
        refine lv_aload_n hx hb dL_change_485 rfl (lv_at hl 8 rfl) ?_
        refine lv_bipush (v := (nI 6)) hx hb dL_change_486 (by decide) ?_
        obtain ⟨fs_488, hfs_488⟩ := hTT.rc
        refine z_Vi_eq (As := [.int (nI 6)]) (rest := []) C0 hP hS hl.1 (m_X4_count l _ hTT (by decide) hI2.pc) lk_L_20 hTT.n0 hfs_488 rfl rfl (Nat.le_of_ble_eq_true rfl) ⟨Nat.le_of_ble_eq_true rfl, Nat.le_of_ble_eq_true rfl⟩ rfl rfl ⟨Nat.zero_le _, Nat.zero_le _⟩ dL_change_488 (fun H locs hP hS => ?_)
        refine z_topi (y := st 4 + 1) upd4_4 ?_
        refine lv_iload hx hb dL_change_491 (lv_at hl 3 rfl) ?_
        refine lv_iconst (v := 1) hx hb dL_change_493 (by decide) ?_
        refine lv_iadd hx hb dL_change_494 ?_
        refine lv_icmp_ne (tgt := 513) hx hb dL_change_495 (by decide) (fun c_495 => absurd (rfl) c_495) (fun c_495 => ?_)
        refine lv_aload_n hx hb dL_change_498 rfl (lv_at hl 8 rfl) ?_
        refine lv_iload_n hx hb dL_change_499 rfl (lv_at hl 7 rfl) ?_
        refine lv_iconst (v := (nI 2)) hx hb dL_change_500 (by decide) ?_
        obtain ⟨fs_501, hfs_501⟩ := hTT.rc
        refine z_Vi_eq (As := [.int (nI iz), .int (nI 2)]) (rest := []) C0 hP hS hl.1 (m_X4_cordOf l _ hTT hi (by decide) hI2.pc) lk_L_15 hTT.n0 hfs_501 rfl rfl (Nat.le_of_ble_eq_true rfl) ⟨Nat.le_of_ble_eq_true rfl, Nat.le_of_ble_eq_true rfl⟩ rfl rfl ⟨Nat.zero_le _, Nat.zero_le _⟩ dL_change_501 (fun H locs hP hS => ?_)
        refine z_topi (y := st (6 + 31 * iz + 1)) (upd_lo (by decide) iz 1) ?_
        refine lv_iload hx hb dL_change_504 (lv_at hl 4 rfl) ?_
        refine lv_icmp_ne (tgt := 513) hx hb dL_change_506 (by decide) (fun c_506 => absurd (rfl) c_506) (fun c_506 => ?_)
        refine lv_iconst (v := 1) hx hb dL_change_509 (by decide) ?_
        refine lv_goto (tgt := 514) hx hb dL_change_510 (by decide) ?_
        exact z_zret C0 hP hS hr rfl (⟨rfl, _, _, _, _, hTT, hI2.mono, Nat.mod_lt _ (by decide), Nat.min_le_right _ _, hFr⟩) dL_change_514
    · have hmd := md_F hI.1 hi c_431
      refine lv_aload_n hx hb dL_change_434 rfl (lv_at hl 8 rfl) ?_
      refine lv_iload_n hx hb dL_change_435 rfl (lv_at hl 7 rfl) ?_
      refine lv_iconst (v := (nI 3)) hx hb dL_change_436 (by decide) ?_
      obtain ⟨fs_437, hfs_437⟩ := hTT.rc
      refine z_Vi_eq (As := [.int (nI iz), .int (nI 3)]) (rest := []) C0 hP hS hl.1 (m_X4_cordOf l _ hTT hi (by decide) hI2.pc) lk_L_15 hTT.n0 hfs_437 rfl rfl (Nat.le_of_ble_eq_true rfl) ⟨Nat.le_of_ble_eq_true rfl, Nat.le_of_ble_eq_true rfl⟩ rfl rfl ⟨Nat.zero_le _, Nat.zero_le _⟩ dL_change_437 (fun H locs hP hS => ?_)
      refine z_topi (y := 0) hmd.1 ?_
      refine lv_if_ne (tgt := 513) hx hb dL_change_440 (by decide) (fun c_440 => absurd c_440 (by decide)) (fun c_440 => ?_)
      refine lv_aload_n hx hb dL_change_443 rfl (lv_at hl 8 rfl) ?_
      refine lv_iload_n hx hb dL_change_444 rfl (lv_at hl 7 rfl) ?_
      refine lv_iconst (v := (nI 0)) hx hb dL_change_445 (by decide) ?_
      obtain ⟨fs_446, hfs_446⟩ := hTT.rc
      refine z_Vi_eq (As := [.int (nI iz), .int (nI 0)]) (rest := []) C0 hP hS hl.1 (m_X4_cordOf l _ hTT hi (by decide) hI2.pc) lk_L_15 hTT.n0 hfs_446 rfl rfl (Nat.le_of_ble_eq_true rfl) ⟨Nat.le_of_ble_eq_true rfl, Nat.le_of_ble_eq_true rfl⟩ rfl rfl ⟨Nat.zero_le _, Nat.zero_le _⟩ dL_change_446 (fun H locs hP hS => ?_)
      refine lv_aload_n hx hb dL_change_449 rfl (lv_at hl 8 rfl) ?_
      refine lv_iload_n hx hb dL_change_450 rfl (lv_at hl 7 rfl) ?_
      refine lv_iconst (v := (nI 1)) hx hb dL_change_451 (by decide) ?_
      obtain ⟨fs_452, hfs_452⟩ := hTT.rc
      refine z_Vi_eq (As := [.int (nI iz), .int (nI 1)]) (rest := [.int (cordF (mendS st iz) iz 0)]) C0 hP hS hl.1 (m_X4_cordOf l _ hTT hi (by decide) hI2.pc) lk_L_15 hTT.n0 hfs_452 rfl rfl (Nat.le_of_ble_eq_true rfl) ⟨Nat.le_of_ble_eq_true rfl, Nat.le_of_ble_eq_true rfl⟩ rfl rfl ⟨Nat.zero_le _, Nat.zero_le _⟩ dL_change_452 (fun H locs hP hS => ?_)
      refine lv_icmp_ne (tgt := 513) hx hb dL_change_455 (by decide) (fun c_455 => absurd hmd.2 c_455) (fun c_455 => ?_)
      refine lv_goto (tgt := 498) hx hb dL_change_458 (by decide) ?_
      refine lv_aload_n hx hb dL_change_498 rfl (lv_at hl 8 rfl) ?_
      refine lv_iload_n hx hb dL_change_499 rfl (lv_at hl 7 rfl) ?_
      refine lv_iconst (v := (nI 2)) hx hb dL_change_500 (by decide) ?_
      obtain ⟨fs_501, hfs_501⟩ := hTT.rc
      refine z_Vi_eq (As := [.int (nI iz), .int (nI 2)]) (rest := []) C0 hP hS hl.1 (m_X4_cordOf l _ hTT hi (by decide) hI2.pc) lk_L_15 hTT.n0 hfs_501 rfl rfl (Nat.le_of_ble_eq_true rfl) ⟨Nat.le_of_ble_eq_true rfl, Nat.le_of_ble_eq_true rfl⟩ rfl rfl ⟨Nat.zero_le _, Nat.zero_le _⟩ dL_change_501 (fun H locs hP hS => ?_)
      refine z_topi (y := st (6 + 31 * iz + 1)) md_2 ?_
      refine lv_iload hx hb dL_change_504 (lv_at hl 4 rfl) ?_
      refine lv_icmp_ne (tgt := 513) hx hb dL_change_506 (by decide) (fun c_506 => absurd (rfl) c_506) (fun c_506 => ?_)
      refine lv_iconst (v := 1) hx hb dL_change_509 (by decide) ?_
      refine lv_goto (tgt := 514) hx hb dL_change_510 (by decide) ?_
      exact z_zret C0 hP hS hr rfl (⟨rfl, _, _, _, _, hTT, hI2.mono, Nat.mod_lt _ (by decide), Nat.min_le_right _ _, hFr⟩) dL_change_514
  · refine lv_tableIn (tgt := 515) hx hb dL_change_57 (by decide) (by decide) rfl (by decide) ?_
    refine lv_aload_n hx hb dL_change_515 rfl (lv_at hl 7 rfl) ?_
    refine lv_iload_n hx hb dL_change_516 rfl (lv_at hl 6 rfl) ?_
    refine lv_iconst (v := (nI 4)) hx hb dL_change_517 (by decide) ?_
    obtain ⟨fs_518, hfs_518⟩ := hTT.rc
    refine z_Vi_eq (As := [.int (nI iz), .int (nI 4)]) (rest := []) C0 hP hS hl.1 (m_X4_cordOf l _ hTT hi (by decide) hI.pc) lk_L_15 hTT.n0 hfs_518 rfl rfl (Nat.le_of_ble_eq_true rfl) ⟨Nat.le_of_ble_eq_true rfl, Nat.le_of_ble_eq_true rfl⟩ rfl rfl ⟨Nat.zero_le _, Nat.zero_le _⟩ dL_change_518 (fun H locs hP hS => ?_)
    refine z_topi (y := cTies st iz) rfl ?_
    refine lv_istore (lv' := [(15, .int (cTies st iz)), (9, .int 0), (8, .int (st 1)), (7, .int (st 4)), (6, .int (st (6 + 31 * iz + 1))), (5, .int (cTold st iz)), (4, .int (nI jz)), (3, .int (nI iz)), (0, .ref (ad 0)), (1, .int xz), (2, .int yz)]) hx hb dL_change_521 hl (by decide) rfl (fun ls hl => ?_)
    refine lv_aload_n hx hb dL_change_523 rfl (lv_at hl 8 rfl) ?_
    refine lv_iconst (v := (nI 5)) hx hb dL_change_524 (by decide) ?_
    obtain ⟨fs_525, hfs_525⟩ := hTT.rc
    refine z_Vi_eq (As := [.int (nI 5)]) (rest := []) C0 hP hS hl.1 (m_X4_count l _ hTT (by decide) hI.pc) lk_L_20 hTT.n0 hfs_525 rfl rfl (Nat.le_of_ble_eq_true rfl) ⟨Nat.le_of_ble_eq_true rfl, Nat.le_of_ble_eq_true rfl⟩ rfl rfl ⟨Nat.zero_le _, Nat.zero_le _⟩ dL_change_525 (fun H locs hP hS => ?_)
    refine z_topi (y := st 3) rfl ?_
    refine lv_istore (lv' := [(16, .int (st 3)), (15, .int (cTies st iz)), (9, .int 0), (8, .int (st 1)), (7, .int (st 4)), (6, .int (st (6 + 31 * iz + 1))), (5, .int (cTold st iz)), (4, .int (nI jz)), (3, .int (nI iz)), (0, .ref (ad 0)), (1, .int xz), (2, .int yz)]) hx hb dL_change_528 hl (by decide) rfl (fun ls hl => ?_)
    refine lv_aload_n hx hb dL_change_530 rfl (lv_at hl 9 rfl) ?_
    refine lv_iload_n hx hb dL_change_531 rfl (lv_at hl 8 rfl) ?_
    refine lv_bipush (v := (nI 6)) hx hb dL_change_532 (by decide) ?_
    obtain ⟨fs_534, hfs_534⟩ := hTT.rc
    refine z_Vi_eq (As := [.int (nI iz), .int (nI 6)]) (rest := []) C0 hP hS hl.1 (m_X4_cordOf l _ hTT hi (by decide) hI.pc) lk_L_15 hTT.n0 hfs_534 rfl rfl (Nat.le_of_ble_eq_true rfl) ⟨Nat.le_of_ble_eq_true rfl, Nat.le_of_ble_eq_true rfl⟩ rfl rfl ⟨Nat.zero_le _, Nat.zero_le _⟩ dL_change_534 (fun H locs hP hS => ?_)
    refine z_topi (y := st (6 + 31 * iz + 0)) rfl ?_
    refine lv_istore (lv' := [(17, .int (st (6 + 31 * iz + 0))), (16, .int (st 3)), (15, .int (cTies st iz)), (9, .int 0), (8, .int (st 1)), (7, .int (st 4)), (6, .int (st (6 + 31 * iz + 1))), (5, .int (cTold st iz)), (4, .int (nI jz)), (3, .int (nI iz)), (0, .ref (ad 0)), (1, .int xz), (2, .int yz)]) hx hb dL_change_537 hl (by decide) rfl (fun ls hl => ?_)
    refine lv_iload_n hx hb dL_change_539 rfl (lv_at hl 12 rfl) ?_
    refine lv_bipush (v := 8) hx hb dL_change_540 (by decide) ?_
    refine lv_ishr hx hb dL_change_542 ?_
    refine lv_iconst (v := 3) hx hb dL_change_543 (by decide) ?_
    refine lv_iand hx hb dL_change_544 ?_
    refine lv_if_ne (tgt := 620) hx hb dL_change_545 (by decide) (fun c_545 => ?_) (fun c_545 => ?_)
    · refine lv_iconst (v := 1) hx hb dL_change_620 (by decide) ?_
      refine lv_goto (tgt := 625) hx hb dL_change_621 (by decide) ?_
      exact z_zret C0 hP hS hr rfl (⟨rfl, _, _, _, _, hTT, hI.mono, hnx, hsz, hFr⟩) dL_change_625
    · refine lv_aload_n hx hb dL_change_548 rfl (lv_at hl 10 rfl) ?_
      refine lv_iload_n hx hb dL_change_549 rfl (lv_at hl 9 rfl) ?_
      obtain ⟨fs_550, hfs_550⟩ := hTT.rc
      refine z_Vi_mo (As := [.int (nI iz)]) (rest := []) C0 hP hS hl.1 (m_X4_renew l _ hTT hi hnx hsz) lk_L_47 hTT.n0 hfs_550 rfl rfl (Nat.le_of_ble_eq_true rfl) ⟨Nat.le_of_ble_eq_true rfl, Nat.le_of_ble_eq_true rfl⟩ rfl rfl ⟨Nat.zero_le _, Nat.zero_le _⟩ dL_change_550 (fun r_550 g_21 H locs hP hS hp => ?_)
      obtain ⟨hr_550, hTT, hF1⟩ := hp
      subst hr_550
      have hFr := hFr.tr (hF1.mono (by intro x9 hx9; first | (dsimp only [zOne, zRg, zCl] at hx9 ⊢; omega) | (dsimp only at hx9 ⊢; omega) | omega))
      have hI2 : pI tz (renF st iz) := hI.rn hi
      refine lv_iload hx hb dL_change_553 (lv_at hl 7 rfl) ?_
      refine lv_icmp_ne (tgt := 624) hx hb dL_change_555 (by decide) (fun c_555 => absurd (rfl) c_555) (fun c_555 => ?_)
      refine lv_aload_n hx hb dL_change_558 rfl (lv_at hl 10 rfl) ?_
      refine lv_iload_n hx hb dL_change_559 rfl (lv_at hl 9 rfl) ?_
      refine lv_iconst (v := (nI 0)) hx hb dL_change_560 (by decide) ?_
      obtain ⟨fs_561, hfs_561⟩ := hTT.rc
      refine z_Vi_eq (As := [.int (nI iz), .int (nI 0)]) (rest := []) C0 hP hS hl.1 (m_X4_cordOf l _ hTT hi (by decide) hI2.pc) lk_L_15 hTT.n0 hfs_561 rfl rfl (Nat.le_of_ble_eq_true rfl) ⟨Nat.le_of_ble_eq_true rfl, Nat.le_of_ble_eq_true rfl⟩ rfl rfl ⟨Nat.zero_le _, Nat.zero_le _⟩ dL_change_561 (fun H locs hP hS => ?_)
      refine z_topi (y := 0) rn_told ?_
      refine lv_if_ne (tgt := 624) hx hb dL_change_564 (by decide) (fun c_564 => absurd c_564 (by decide)) (fun c_564 => ?_)
      refine lv_aload_n hx hb dL_change_567 rfl (lv_at hl 10 rfl) ?_
      refine lv_iload_n hx hb dL_change_568 rfl (lv_at hl 9 rfl) ?_
      refine lv_iconst (v := (nI 2)) hx hb dL_change_569 (by decide) ?_
      obtain ⟨fs_570, hfs_570⟩ := hTT.rc
      refine z_Vi_eq (As := [.int (nI iz), .int (nI 2)]) (rest := []) C0 hP hS hl.1 (m_X4_cordOf l _ hTT hi (by decide) hI2.pc) lk_L_15 hTT.n0 hfs_570 rfl rfl (Nat.le_of_ble_eq_true rfl) ⟨Nat.le_of_ble_eq_true rfl, Nat.le_of_ble_eq_true rfl⟩ rfl rfl ⟨Nat.zero_le _, Nat.zero_le _⟩ dL_change_570 (fun H locs hP hS => ?_)
      refine z_topi (y := 0) (rn_12 (Or.inl rfl)) ?_
      refine lv_if_ne (tgt := 624) hx hb dL_change_573 (by decide) (fun c_573 => absurd c_573 (by decide)) (fun c_573 => ?_)
      refine lv_aload_n hx hb dL_change_576 rfl (lv_at hl 10 rfl) ?_
      refine lv_iload_n hx hb dL_change_577 rfl (lv_at hl 9 rfl) ?_
      refine lv_iconst (v := (nI 4)) hx hb dL_change_578 (by decide) ?_
      obtain ⟨fs_579, hfs_579⟩ := hTT.rc
      refine z_Vi_eq (As := [.int (nI iz), .int (nI 4)]) (rest := []) C0 hP hS hl.1 (m_X4_cordOf l _ hTT hi (by decide) hI2.pc) lk_L_15 hTT.n0 hfs_579 rfl rfl (Nat.le_of_ble_eq_true rfl) ⟨Nat.le_of_ble_eq_true rfl, Nat.le_of_ble_eq_true rfl⟩ rfl rfl ⟨Nat.zero_le _, Nat.zero_le _⟩ dL_change_579 (fun H locs hP hS => ?_)
      refine z_topi (y := 0) rn_ties ?_
      refine lv_if_ne (tgt := 624) hx hb dL_change_582 (by decide) (fun c_582 => absurd c_582 (by decide)) (fun c_582 => ?_)
      refine lv_aload_n hx hb dL_change_585 rfl (lv_at hl 10 rfl) ?_
      refine lv_iconst (v := (nI 5)) hx hb dL_change_586 (by decide) ?_
      obtain ⟨fs_587, hfs_587⟩ := hTT.rc
      refine z_Vi_eq (As := [.int (nI 5)]) (rest := []) C0 hP hS hl.1 (m_X4_count l _ hTT (by decide) hI2.pc) lk_L_20 hTT.n0 hfs_587 rfl rfl (Nat.le_of_ble_eq_true rfl) ⟨Nat.le_of_ble_eq_true rfl, Nat.le_of_ble_eq_true rfl⟩ rfl rfl ⟨Nat.zero_le _, Nat.zero_le _⟩ dL_change_587 (fun H locs hP hS => ?_)
      refine z_topi (y := st 3 + cTies st iz) rn_3 ?_
      refine lv_iload hx hb dL_change_590 (lv_at hl 1 rfl) ?_
      refine lv_iload hx hb dL_change_592 (lv_at hl 2 rfl) ?_
      refine lv_iadd hx hb dL_change_594 ?_
      refine lv_icmp_ne (tgt := 624) hx hb dL_change_595 (by decide) (fun c_595 => absurd (rfl) c_595) (fun c_595 => ?_)
      refine lv_aload_n hx hb dL_change_598 rfl (lv_at hl 10 rfl) ?_
      refine lv_iload_n hx hb dL_change_599 rfl (lv_at hl 9 rfl) ?_
      refine lv_bipush (v := (nI 6)) hx hb dL_change_600 (by decide) ?_
      obtain ⟨fs_602, hfs_602⟩ := hTT.rc
      refine z_Vi_eq (As := [.int (nI iz), .int (nI 6)]) (rest := []) C0 hP hS hl.1 (m_X4_cordOf l _ hTT hi (by decide) hI2.pc) lk_L_15 hTT.n0 hfs_602 rfl rfl (Nat.le_of_ble_eq_true rfl) ⟨Nat.le_of_ble_eq_true rfl, Nat.le_of_ble_eq_true rfl⟩ rfl rfl ⟨Nat.zero_le _, Nat.zero_le _⟩ dL_change_602 (fun H locs hP hS => ?_)
      refine z_topi (y := st (6 + 31 * iz + 0)) (rn_h iz) ?_
      refine lv_iload hx hb dL_change_605 (lv_at hl 0 rfl) ?_
      refine lv_icmp_ne (tgt := 624) hx hb dL_change_607 (by decide) (fun c_607 => absurd (rfl) c_607) (fun c_607 => ?_)
      refine lv_aload_n hx hb dL_change_610 rfl (lv_at hl 10 rfl) ?_
      refine lv_iload_n hx hb dL_change_611 rfl (lv_at hl 9 rfl) ?_
      refine lv_bipush (v := (nI 7)) hx hb dL_change_612 (by decide) ?_
      obtain ⟨fs_614, hfs_614⟩ := hTT.rc
      refine z_Vi_eq (As := [.int (nI iz), .int (nI 7)]) (rest := []) C0 hP hS hl.1 (m_X4_cordOf l _ hTT hi (by decide) hI2.pc) lk_L_15 hTT.n0 hfs_614 rfl rfl (Nat.le_of_ble_eq_true rfl) ⟨Nat.le_of_ble_eq_true rfl, Nat.le_of_ble_eq_true rfl⟩ rfl rfl ⟨Nat.zero_le _, Nat.zero_le _⟩ dL_change_614 (fun H locs hP hS => ?_)
      refine z_topi (y := 0) (rn_12 (Or.inr rfl)) ?_
      refine lv_if_ne (tgt := 624) hx hb dL_change_617 (by decide) (fun c_617 => absurd c_617 (by decide)) (fun c_617 => ?_)
      refine lv_iconst (v := 1) hx hb dL_change_620 (by decide) ?_
      refine lv_goto (tgt := 625) hx hb dL_change_621 (by decide) ?_
      exact z_zret C0 hP hS hr rfl (⟨rfl, _, _, _, _, hTT, hI2.mono, Nat.mod_lt _ (by decide), Nat.min_le_right _ _, hFr⟩) dL_change_625
  · refine lv_tableIn (tgt := 626) hx hb dL_change_57 (by decide) (by decide) rfl (by decide) ?_
    refine lv_aload_n hx hb dL_change_626 rfl (lv_at hl 7 rfl) ?_
    refine lv_iload_n hx hb dL_change_627 rfl (lv_at hl 6 rfl) ?_
    refine lv_bipush (v := (nI 6)) hx hb dL_change_628 (by decide) ?_
    obtain ⟨fs_630, hfs_630⟩ := hTT.rc
    refine z_Vi_eq (As := [.int (nI iz), .int (nI 6)]) (rest := []) C0 hP hS hl.1 (m_X4_cordOf l _ hTT hi (by decide) hI.pc) lk_L_15 hTT.n0 hfs_630 rfl rfl (Nat.le_of_ble_eq_true rfl) ⟨Nat.le_of_ble_eq_true rfl, Nat.le_of_ble_eq_true rfl⟩ rfl rfl ⟨Nat.zero_le _, Nat.zero_le _⟩ dL_change_630 (fun H locs hP hS => ?_)
    refine z_topi (y := st (6 + 31 * iz + 0)) rfl ?_
    refine lv_istore (lv' := [(9, .int (st (6 + 31 * iz + 0))), (8, .int (st 1)), (7, .int (st 4)), (6, .int (st (6 + 31 * iz + 1))), (5, .int (cTold st iz)), (4, .int (nI jz)), (3, .int (nI iz)), (0, .ref (ad 0)), (1, .int xz), (2, .int yz)]) hx hb dL_change_633 hl (by decide) rfl (fun ls hl => ?_)
    refine lv_aload_n hx hb dL_change_635 rfl (lv_at hl 7 rfl) ?_
    refine lv_iload_n hx hb dL_change_636 rfl (lv_at hl 6 rfl) ?_
    refine lv_iload_n hx hb dL_change_637 rfl (lv_at hl 9 rfl) ?_
    refine lv_iconst (v := 4) hx hb dL_change_638 (by decide) ?_
    refine lv_ishr hx hb dL_change_639 ?_
    refine lv_bipush (v := (nI 6)) hx hb dL_change_640 (by decide) ?_
    obtain ⟨hz, hhz, ehz⟩ := lowF_rng (yz >>> ((4 : Int32) &&& 31)) (n := 6) (by decide) (by decide)
    refine z_Si_eq (As := [.int (yz >>> (4 &&& 31)), .int (nI 6)]) (rest := [.int (nI iz), .ref (ad 0)]) C0 hP hS hl.1 (m_L_low l _ (by decide) (by decide)) lk_L_9 rfl rfl (Nat.le_of_ble_eq_true rfl) ⟨Nat.le_of_ble_eq_true rfl, Nat.le_of_ble_eq_true rfl⟩ rfl rfl ⟨Nat.zero_le _, Nat.zero_le _⟩ dL_change_642 (fun H locs hP hS => ?_)
    refine z_topi (y := nI hz) ehz ?_
    obtain ⟨fs_645, hfs_645⟩ := hTT.rc
    refine z_Vi_mo (As := [.int (nI iz), .int (nI hz)]) (rest := []) C0 hP hS hl.1 (m_X4_dye l _ hTT hi (hue_rng hhz).1 (hue_rng hhz).2 hnx hsz) lk_L_50 hTT.n0 hfs_645 rfl rfl (Nat.le_of_ble_eq_true rfl) ⟨Nat.le_of_ble_eq_true rfl, Nat.le_of_ble_eq_true rfl⟩ rfl rfl ⟨Nat.zero_le _, Nat.zero_le _⟩ dL_change_645 (fun r_645 g_22 H locs hP hS hp => ?_)
    obtain ⟨hr_645, hTT, hF1⟩ := hp
    subst hr_645
    have hFr := hFr.tr (hF1.mono (by intro x9 hx9; first | (dsimp only [zOne, zRg, zCl] at hx9 ⊢; omega) | (dsimp only at hx9 ⊢; omega) | omega))
    have hI2 : pI tz (upd st (6 + 31 * iz + 0) (nI hz)) := hI.hue hi hhz
    refine lv_iload hx hb dL_change_648 (lv_at hl 0 rfl) ?_
    refine lv_icmp_ne (tgt := 675) hx hb dL_change_650 (by decide) (fun c_650 => absurd (rfl) c_650) (fun c_650 => ?_)
    refine lv_aload_n hx hb dL_change_653 rfl (lv_at hl 7 rfl) ?_
    refine lv_iload_n hx hb dL_change_654 rfl (lv_at hl 6 rfl) ?_
    refine lv_bipush (v := (nI 6)) hx hb dL_change_655 (by decide) ?_
    obtain ⟨fs_657, hfs_657⟩ := hTT.rc
    refine z_Vi_eq (As := [.int (nI iz), .int (nI 6)]) (rest := []) C0 hP hS hl.1 (m_X4_cordOf l _ hTT hi (by decide) hI2.pc) lk_L_15 hTT.n0 hfs_657 rfl rfl (Nat.le_of_ble_eq_true rfl) ⟨Nat.le_of_ble_eq_true rfl, Nat.le_of_ble_eq_true rfl⟩ rfl rfl ⟨Nat.zero_le _, Nat.zero_le _⟩ dL_change_657 (fun H locs hP hS => ?_)
    refine z_topi (y := nI hz) (show upd st (6 + 31 * iz + 0) (nI hz) (6 + 31 * iz + 0) = _ from upd_at _ _ _) ?_
    refine lv_iload_n hx hb dL_change_660 rfl (lv_at hl 9 rfl) ?_
    refine lv_iconst (v := 4) hx hb dL_change_661 (by decide) ?_
    refine lv_ishr hx hb dL_change_662 ?_
    refine lv_bipush (v := (nI 6)) hx hb dL_change_663 (by decide) ?_
    refine z_Si_eq (As := [.int (yz >>> (4 &&& 31)), .int (nI 6)]) (rest := [.int (nI hz)]) C0 hP hS hl.1 (m_L_low l _ (by decide) (by decide)) lk_L_9 rfl rfl (Nat.le_of_ble_eq_true rfl) ⟨Nat.le_of_ble_eq_true rfl, Nat.le_of_ble_eq_true rfl⟩ rfl rfl ⟨Nat.zero_le _, Nat.zero_le _⟩ dL_change_665 (fun H locs hP hS => ?_)
    refine z_topi (y := nI hz) ehz ?_
    refine lv_icmp_ne (tgt := 675) hx hb dL_change_668 (by decide) (fun c_668 => absurd (rfl) c_668) (fun c_668 => ?_)
    refine lv_iconst (v := 1) hx hb dL_change_671 (by decide) ?_
    refine lv_goto (tgt := 676) hx hb dL_change_672 (by decide) ?_
    exact z_zret C0 hP hS hr rfl (⟨rfl, _, _, _, _, hTT, hI2.mono, Nat.mod_lt _ (by decide), Nat.min_le_right _ _, hFr⟩) dL_change_676
  · refine lv_tableOut (tgt := 677) hx hb dL_change_57 (Or.inr (by decide)) (by decide) ?_
    refine lv_aload_n hx hb dL_change_677 rfl (lv_at hl 7 rfl) ?_
    refine lv_bipush (v := (nI 8)) hx hb dL_change_678 (by decide) ?_
    obtain ⟨fs_680, hfs_680⟩ := hTT.rc
    refine z_Vi_eq (As := [.int (nI 8)]) (rest := []) C0 hP hS hl.1 (m_X4_count l _ hTT (by decide) hI.pc) lk_L_20 hTT.n0 hfs_680 rfl rfl (Nat.le_of_ble_eq_true rfl) ⟨Nat.le_of_ble_eq_true rfl, Nat.le_of_ble_eq_true rfl⟩ rfl rfl ⟨Nat.zero_le _, Nat.zero_le _⟩ dL_change_680 (fun H locs hP hS => ?_)
    refine z_topi (y := st 5) rfl ?_
    refine lv_istore (lv' := [(9, .int (st 5)), (8, .int (st 1)), (7, .int (st 4)), (6, .int (st (6 + 31 * iz + 1))), (5, .int (cTold st iz)), (4, .int (nI jz)), (3, .int (nI iz)), (0, .ref (ad 0)), (1, .int xz), (2, .int yz)]) hx hb dL_change_683 hl (by decide) rfl (fun ls hl => ?_)
    refine lv_aload_n hx hb dL_change_685 rfl (lv_at hl 7 rfl) ?_
    refine lv_bipush (v := 20) hx hb dL_change_686 (by decide) ?_
    refine lv_iload_n hx hb dL_change_688 rfl (lv_at hl 9 rfl) ?_
    refine lv_bipush (v := (nI 40)) hx hb dL_change_689 (by decide) ?_
    obtain ⟨rz, hrz, erz⟩ := lowF_rng yz (n := 40) (by decide) (by decide)
    have hrm := room_rng hrz
    refine z_Si_eq (As := [.int yz, .int (nI 40)]) (rest := [.int 20, .ref (ad 0)]) C0 hP hS hl.1 (m_L_low l _ (by decide) (by decide)) lk_L_9 rfl rfl (Nat.le_of_ble_eq_true rfl) ⟨Nat.le_of_ble_eq_true rfl, Nat.le_of_ble_eq_true rfl⟩ rfl rfl ⟨Nat.zero_le _, Nat.zero_le _⟩ dL_change_691 (fun H locs hP hS => ?_)
    refine z_topi (y := nI rz) erz ?_
    refine lv_iadd hx hb dL_change_694 ?_
    refine z_topi (y := nI (20 + rz)) hrm.1 ?_
    obtain ⟨fs_695, hfs_695⟩ := hTT.rc
    refine z_Vi_mo (As := [.int (nI (20 + rz))]) (rest := []) C0 hP hS hl.1 (m_X4_set l _ hTT hrm.2.1 hrm.2.2.1 hnx hsz) lk_L_53 hTT.n0 hfs_695 rfl rfl (Nat.le_of_ble_eq_true rfl) ⟨Nat.le_of_ble_eq_true rfl, Nat.le_of_ble_eq_true rfl⟩ rfl rfl ⟨Nat.zero_le _, Nat.zero_le _⟩ dL_change_695 (fun r_695 g_23 H locs hP hS hp => ?_)
    obtain ⟨hr_695, hTT, hF1⟩ := hp
    subst hr_695
    have hFr := hFr.tr (hF1.mono (by intro x9 hx9; first | (dsimp only [zOne, zRg, zCl] at hx9 ⊢; omega) | (dsimp only at hx9 ⊢; omega) | omega))
    have hI2 : pI tz (upd st 5 (nI (20 + rz))) := hI.room hrm.2.2.2.1 hrm.2.2.2.2
    refine lv_iload hx hb dL_change_698 (lv_at hl 0 rfl) ?_
    refine lv_icmp_ne (tgt := 725) hx hb dL_change_700 (by decide) (fun c_700 => absurd (rfl) c_700) (fun c_700 => ?_)
    refine lv_aload_n hx hb dL_change_703 rfl (lv_at hl 7 rfl) ?_
    refine lv_bipush (v := (nI 8)) hx hb dL_change_704 (by decide) ?_
    obtain ⟨fs_706, hfs_706⟩ := hTT.rc
    refine z_Vi_eq (As := [.int (nI 8)]) (rest := []) C0 hP hS hl.1 (m_X4_count l _ hTT (by decide) hI2.pc) lk_L_20 hTT.n0 hfs_706 rfl rfl (Nat.le_of_ble_eq_true rfl) ⟨Nat.le_of_ble_eq_true rfl, Nat.le_of_ble_eq_true rfl⟩ rfl rfl ⟨Nat.zero_le _, Nat.zero_le _⟩ dL_change_706 (fun H locs hP hS => ?_)
    refine z_topi (y := nI (20 + rz)) (show upd st 5 (nI (20 + rz)) 5 = _ from upd_at _ _ _) ?_
    refine lv_bipush (v := 20) hx hb dL_change_709 (by decide) ?_
    refine lv_iload_n hx hb dL_change_711 rfl (lv_at hl 9 rfl) ?_
    refine lv_bipush (v := (nI 40)) hx hb dL_change_712 (by decide) ?_
    refine z_Si_eq (As := [.int yz, .int (nI 40)]) (rest := [.int 20, .int (nI (20 + rz))]) C0 hP hS hl.1 (m_L_low l _ (by decide) (by decide)) lk_L_9 rfl rfl (Nat.le_of_ble_eq_true rfl) ⟨Nat.le_of_ble_eq_true rfl, Nat.le_of_ble_eq_true rfl⟩ rfl rfl ⟨Nat.zero_le _, Nat.zero_le _⟩ dL_change_714 (fun H locs hP hS => ?_)
    refine z_topi (y := nI rz) erz ?_
    refine lv_iadd hx hb dL_change_717 ?_
    refine z_topi (y := nI (20 + rz)) hrm.1 ?_
    refine lv_icmp_ne (tgt := 725) hx hb dL_change_718 (by decide) (fun c_718 => absurd (rfl) c_718) (fun c_718 => ?_)
    refine lv_iconst (v := 1) hx hb dL_change_721 (by decide) ?_
    refine lv_goto (tgt := 726) hx hb dL_change_722 (by decide) ?_
    exact z_zret C0 hP hS hr rfl (⟨rfl, _, _, _, _, hTT, hI2.mono, Nat.mod_lt _ (by decide), Nat.min_le_right _ _, hFr⟩) dL_change_726
