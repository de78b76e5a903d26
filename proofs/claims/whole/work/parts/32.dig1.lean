set_option maxHeartbeats 4000000 in
set_option maxRecDepth 100000 in
theorem m_X4_mixCord (l : Launch) {D : va_G} {cy : Nat → ClassId} {K : Nat} {ad : Nat → Nat} {g : Nat → va_E} (sz : Nat) {st : Nat → Int32} {sv : Nat → Nat → Int32} {nx sz2 : Nat} {ns : Nat → Option Nat} {ss : Nat → Nat → Int32} {bu : Nat → Int32} {ln : Nat} {hz : Int64} {iz : Nat} (hTT : isT cy K ad g st sv nx sz2 ns ss bu ln) (hi : iz < 7) (hpc : pcOK st) : Met l yX4_mixCord (zs yX4_mixCord cX4_mixCord 8 (some .long)) ({ frames := 5, cells := 0, slots := 0, locals := 117 } : Room) (va_Pc [.ref (ad 0), .long hz, .int (nI iz)] (zIn D cy K ad g sz)) (va_Ql (fun r g1 => r = dgC st iz hz ∧ isT cy K ad g1 st sv nx sz2 ns ss bu ln ∧ zFr zCl g g1) (zOut D cy K ad sz) (zA K ad sz)) 0 0 (zA K ad sz) := by
  refine z_met (by decide) (Nat.le_of_ble_eq_true rfl) (fun p e s m below meth c ls hsz hl C0 hr hnm hP hS => ?_)
  subst hsz
  have hl : lv_has ls 8 [(0, .ref (ad 0)), (1, .long hz), (3, .int (nI iz))] := hl
  have hx := C0.1; have hb := C0.2.1; have hown := C0.2.2.2.1; have hts := C0.2.2.2.2.1
  have hFr : zFr (zCl) g g := zFr.rf
  have hcm := (hpc iz hi).2
  refine lv_lload_n hx hb dX4_mixCord_0 rfl (lv_at hl 1 rfl) ?_
  refine lv_lstore (lv' := [(4, .long hz), (0, .ref (ad 0)), (1, .long hz), (3, .int (nI iz))]) hx hb dX4_mixCord_1 hl (by decide) rfl (fun ls hl => ?_)
  refine lv_iconst (v := (nI 0)) hx hb dX4_mixCord_3 (by decide) ?_
  refine lv_istore (lv' := [(6, .int (nI 0)), (4, .long hz), (0, .ref (ad 0)), (1, .long hz), (3, .int (nI iz))]) hx hb dX4_mixCord_4 hl (by decide) rfl (fun ls hl => ?_)
  have lp_6 : ∀ (N : Nat) (kz : Nat) (hk : kz ≤ 8), 8 - kz < N → ∀ (H : Heap) (locs : List Loc) (ls : Array Slot), zP D K ad g (zA K ad s.heap.size) H → va_S (zA K ad s.heap.size) s.heap H locs → lv_has ls 8 [(0, .ref (ad 0)), (3, .int (nI iz)), (4, .long (dgW st iz hz kz)), (6, .int (nI kz))] → W p l e ({ frames := 5, cells := 0, slots := 0, locals := 117 } : Room) s m [.ref (ad 0), .long hz, .int (nI iz)].toArray below meth c H locs 0 0 (MQ below (va_Ql (fun r g1 => r = dgC st iz hz ∧ isT cy K ad g1 st sv nx sz2 ns ss bu ln ∧ zFr zCl g g1) (zOut D cy K ad s.heap.size) (zA K ad s.heap.size)) [.ref (ad 0), .long hz, .int (nI iz)].toArray s 0 0 (zA K ad s.heap.size)) (F0 m 6 ls []) := by
    intro N
    induction N with
    | zero => intro kz hk hN; exact absurd hN (Nat.not_lt_zero _)
    | succ N ih_6 =>
      intro kz hk hN H locs ls hP hS  hl
      refine lv_iload hx hb dX4_mixCord_6 (lv_at hl 3 rfl) ?_
      refine lv_bipush (v := 7) hx hb dX4_mixCord_8 (by decide) ?_
      refine lv_icmp_gt (tgt := 34) hx hb dX4_mixCord_10 (by decide) (fun c_10 => ?_) (fun c_10 => ?_)
      · have hk2 : kz = 8 := by have := z_lt_t (j := 7) c_10 (by omega) (by omega); omega
        subst hk2
        refine lv_iconst (v := (nI 0)) hx hb dX4_mixCord_34 (by decide) ?_
        refine lv_istore (lv' := [(6, .int (nI 0)), (0, .ref (ad 0)), (3, .int (nI iz)), (4, .long (dgW st iz hz 8))]) hx hb dX4_mixCord_35 hl (by decide) rfl (fun ls hl => ?_)
        have lp_37 : ∀ (N : Nat) (kz : Nat) (hk : kz ≤ 6), 6 - kz < N → ∀ (H : Heap) (locs : List Loc) (ls : Array Slot), zP D K ad g (zA K ad s.heap.size) H → va_S (zA K ad s.heap.size) s.heap H locs → lv_has ls 8 [(0, .ref (ad 0)), (3, .int (nI iz)), (4, .long (dgP st iz hz (4 * kz))), (6, .int (nI kz))] → W p l e ({ frames := 5, cells := 0, slots := 0, locals := 117 } : Room) s m [.ref (ad 0), .long hz, .int (nI iz)].toArray below meth c H locs 0 0 (MQ below (va_Ql (fun r g1 => r = dgC st iz hz ∧ isT cy K ad g1 st sv nx sz2 ns ss bu ln ∧ zFr zCl g g1) (zOut D cy K ad s.heap.size) (zA K ad s.heap.size)) [.ref (ad 0), .long hz, .int (nI iz)].toArray s 0 0 (zA K ad s.heap.size)) (F0 m 37 ls []) := by
          intro N
          induction N with
          | zero => intro kz hk hN; exact absurd hN (Nat.not_lt_zero _)
          | succ N ih_37 =>
            intro kz hk hN H locs ls hP hS  hl
            refine lv_iload hx hb dX4_mixCord_37 (lv_at hl 3 rfl) ?_
            refine lv_bipush (v := 6) hx hb dX4_mixCord_39 (by decide) ?_
            refine lv_icmp_ge (tgt := 82) hx hb dX4_mixCord_41 (by decide) (fun c_41 => ?_) (fun c_41 => ?_)
            · have hk2 : kz = 6 := by have := z_ge_t (b := 6) c_41 (by omega) (by omega); omega
              subst hk2
              refine lv_aload_n hx hb dX4_mixCord_82 rfl (lv_at hl 0 rfl) ?_
              refine lv_iload_n hx hb dX4_mixCord_83 rfl (lv_at hl 1 rfl) ?_
              refine lv_iconst (v := (nI 2)) hx hb dX4_mixCord_84 (by decide) ?_
              obtain ⟨fs_85, hfs_85⟩ := hTT.rc
              refine z_Vi_eq (As := [.int (nI iz), .int (nI 2)]) (rest := []) C0 hP hS hl.1 (m_X4_cordOf l _ hTT hi (by decide) hpc) lk_X4_323 hTT.n0 hfs_85 rfl rfl (Nat.le_of_ble_eq_true rfl) ⟨Nat.le_of_ble_eq_true rfl, Nat.le_of_ble_eq_true rfl⟩ rfl rfl ⟨Nat.zero_le _, Nat.zero_le _⟩ dX4_mixCord_85 (fun H locs hP hS => ?_)
              refine z_topi (y := nI (cm st iz)) ((hpc iz hi).1) ?_
              refine lv_istore (lv' := [(6, .int (nI (cm st iz))), (0, .ref (ad 0)), (3, .int (nI iz)), (4, .long (dgP st iz hz (4 * 6)))]) hx hb dX4_mixCord_88 hl (by decide) rfl (fun ls hl => ?_)
              refine lv_iconst (v := (nI 0)) hx hb dX4_mixCord_90 (by decide) ?_
              refine lv_istore (lv' := [(7, .int (nI 0)), (6, .int (nI (cm st iz))), (0, .ref (ad 0)), (3, .int (nI iz)), (4, .long (dgP st iz hz (4 * 6)))]) hx hb dX4_mixCord_91 hl (by decide) rfl (fun ls hl => ?_)
              have lp_93 : ∀ (N : Nat) (kz : Nat) (hk : kz ≤ cm st iz), cm st iz - kz < N → ∀ (H : Heap) (locs : List Loc) (ls : Array Slot), zP D K ad g (zA K ad s.heap.size) H → va_S (zA K ad s.heap.size) s.heap H locs → lv_has ls 8 [(0, .ref (ad 0)), (3, .int (nI iz)), (4, .long (dgR st iz hz kz)), (6, .int (nI (cm st iz))), (7, .int (nI kz))] → W p l e ({ frames := 5, cells := 0, slots := 0, locals := 117 } : Room) s m [.ref (ad 0), .long hz, .int (nI iz)].toArray below meth c H locs 0 0 (MQ below (va_Ql (fun r g1 => r = dgC st iz hz ∧ isT cy K ad g1 st sv nx sz2 ns ss bu ln ∧ zFr zCl g g1) (zOut D cy K ad s.heap.size) (zA K ad s.heap.size)) [.ref (ad 0), .long hz, .int (nI iz)].toArray s 0 0 (zA K ad s.heap.size)) (F0 m 93 ls []) := by
                intro N
                induction N with
                | zero => intro kz hk hN; exact absurd hN (Nat.not_lt_zero _)
                | succ N ih_93 =>
                  intro kz hk hN H locs ls hP hS  hl
                  refine lv_iload hx hb dX4_mixCord_93 (lv_at hl 4 rfl) ?_
                  refine lv_iload hx hb dX4_mixCord_95 (lv_at hl 3 rfl) ?_
                  refine lv_icmp_ge (tgt := 121) hx hb dX4_mixCord_97 (by decide) (fun c_97 => ?_) (fun c_97 => ?_)
                  · have hk2 : kz = cm st iz := by have := z_ge_t c_97 (by omega) (by omega); omega
                    rw [hk2] at hl
                    refine lv_lload hx hb dX4_mixCord_121 (lv_at hl 2 rfl) ?_
                    refine lv_aload_n hx hb dX4_mixCord_123 rfl (lv_at hl 0 rfl) ?_
                    refine lv_iload_n hx hb dX4_mixCord_124 rfl (lv_at hl 1 rfl) ?_
                    refine lv_sipush (v := 999) hx hb dX4_mixCord_125 (by decide) ?_
                    obtain ⟨fs_128, hfs_128⟩ := hTT.rc
                    refine z_Vi_eq (As := [.int (nI iz), .int 999]) (rest := [.long (dgR st iz hz (cm st iz))]) C0 hP hS hl.1 (m_X4_whyNot l _ hTT hi (by decide) (by decide) hpc) lk_X4_333 hTT.n0 hfs_128 rfl rfl (Nat.le_of_ble_eq_true rfl) ⟨Nat.le_of_ble_eq_true rfl, Nat.le_of_ble_eq_true rfl⟩ rfl rfl ⟨Nat.zero_le _, Nat.zero_le _⟩ dX4_mixCord_128 (fun H locs hP hS => ?_)
                    refine lv_i2l hx hb dX4_mixCord_131 rfl ?_
                    refine z_Sl_eq (As := [.long (dgR st iz hz (cm st iz)), .long ((cRop st iz 999).toInt64)]) (rest := []) C0 hP hS hl.1 (m_X4_mix l _ ) lk_X4_256 rfl rfl (Nat.le_of_ble_eq_true rfl) ⟨Nat.le_of_ble_eq_true rfl, Nat.le_of_ble_eq_true rfl⟩ rfl rfl ⟨Nat.zero_le _, Nat.zero_le _⟩ dX4_mixCord_132 (fun H locs hP hS => ?_)
                    refine lv_lstore (lv' := [(4, .long (31 * (dgR st iz hz (cm st iz)) + ((cRop st iz 999).toInt64))), (0, .ref (ad 0)), (3, .int (nI iz)), (6, .int (nI (cm st iz))), (7, .int (nI (cm st iz)))]) hx hb dX4_mixCord_135 hl (by decide) rfl (fun ls hl => ?_)
                    refine lv_lload hx hb dX4_mixCord_137 (lv_at hl 0 rfl) ?_
                    refine lv_aload_n hx hb dX4_mixCord_139 rfl (lv_at hl 1 rfl) ?_
                    refine lv_iload_n hx hb dX4_mixCord_140 rfl (lv_at hl 2 rfl) ?_
                    refine lv_bipush (v := 95) hx hb dX4_mixCord_141 (by decide) ?_
                    obtain ⟨fs_143, hfs_143⟩ := hTT.rc
                    refine z_Vi_mo (As := [.int (nI iz), .int 95]) (rest := [.long (31 * (dgR st iz hz (cm st iz)) + ((cRop st iz 999).toInt64))]) C0 hP hS hl.1 (m_X4_howOften l _ hTT hi (by decide) (by decide) hpc) lk_X4_336 hTT.n0 hfs_143 rfl rfl (Nat.le_of_ble_eq_true rfl) ⟨Nat.le_of_ble_eq_true rfl, Nat.le_of_ble_eq_true rfl⟩ rfl rfl ⟨Nat.zero_le _, Nat.zero_le _⟩ dX4_mixCord_143 (fun r_143 g_4 H locs hP hS hp => ?_)
                    obtain ⟨hr_143, hTT, hF1⟩ := hp
                    subst hr_143
                    have hFr := hFr.tr (hF1.mono (by intro x9 hx9; first | (dsimp only [zOne, zRg, zCl] at hx9 ⊢; omega) | (dsimp only at hx9 ⊢; omega) | omega))
                    refine lv_i2l hx hb dX4_mixCord_146 rfl ?_
                    refine z_Sl_eq (As := [.long (31 * (dgR st iz hz (cm st iz)) + ((cRop st iz 999).toInt64)), .long ((nI (hoN 95 (st 5) 16 (fK st iz) (fL st iz) (cm st iz))).toInt64)]) (rest := []) C0 hP hS hl.1 (m_X4_mix l _ ) lk_X4_256 rfl rfl (Nat.le_of_ble_eq_true rfl) ⟨Nat.le_of_ble_eq_true rfl, Nat.le_of_ble_eq_true rfl⟩ rfl rfl ⟨Nat.zero_le _, Nat.zero_le _⟩ dX4_mixCord_147 (fun H locs hP hS => ?_)
                    exact z_lret C0 hP hS hr (⟨rfl, hTT, hFr⟩) dX4_mixCord_150
                  · have hk2 : kz < cm st iz := z_ge_f c_97 (by omega) (by omega)
                    refine lv_lload hx hb dX4_mixCord_100 (lv_at hl 2 rfl) ?_
                    refine lv_aload_n hx hb dX4_mixCord_102 rfl (lv_at hl 0 rfl) ?_
                    refine lv_iload_n hx hb dX4_mixCord_103 rfl (lv_at hl 1 rfl) ?_
                    refine lv_iload hx hb dX4_mixCord_104 (lv_at hl 4 rfl) ?_
                    obtain ⟨fs_106, hfs_106⟩ := hTT.rc
                    refine z_Vi_eq (As := [.int (nI iz), .int (nI kz)]) (rest := [.long (dgR st iz hz kz)]) C0 hP hS hl.1 (m_X4_part l _ hTT hi (Int32.not_lt.mp (nI_pos (by omega))) hpc) lk_X4_330 hTT.n0 hfs_106 rfl rfl (Nat.le_of_ble_eq_true rfl) ⟨Nat.le_of_ble_eq_true rfl, Nat.le_of_ble_eq_true rfl⟩ rfl rfl ⟨Nat.zero_le _, Nat.zero_le _⟩ dX4_mixCord_106 (fun H locs hP hS => ?_)
                    refine lv_i2l hx hb dX4_mixCord_109 rfl ?_
                    refine z_Sl_eq (As := [.long (dgR st iz hz kz), .long ((partF st iz (nI kz)).toInt64)]) (rest := []) C0 hP hS hl.1 (m_X4_mix l _ ) lk_X4_256 rfl rfl (Nat.le_of_ble_eq_true rfl) ⟨Nat.le_of_ble_eq_true rfl, Nat.le_of_ble_eq_true rfl⟩ rfl rfl ⟨Nat.zero_le _, Nat.zero_le _⟩ dX4_mixCord_110 (fun H locs hP hS => ?_)
                    refine lv_lstore (lv' := [(4, .long (31 * (dgR st iz hz kz) + ((partF st iz (nI kz)).toInt64))), (0, .ref (ad 0)), (3, .int (nI iz)), (6, .int (nI (cm st iz))), (7, .int (nI kz))]) hx hb dX4_mixCord_113 hl (by decide) rfl (fun ls hl => ?_)
                    refine lv_iinc (v := nI (kz + 1)) (lv' := [(7, .int (nI (kz + 1))), (4, .long (31 * (dgR st iz hz kz) + ((partF st iz (nI kz)).toInt64))), (0, .ref (ad 0)), (3, .int (nI iz)), (6, .int (nI (cm st iz)))]) hx hb dX4_mixCord_115 hl (k := 4) rfl (z_inc _) (by decide) rfl (fun ls hl => ?_)
                    refine lv_goto (tgt := 93) hx hb dX4_mixCord_118 (by decide) ?_
                    exact ih_93 (kz + 1) hk2 (by omega) _ _ _ hP hS  (lv_sub hl [2, 3, 1, 4, 0] rfl)
              exact lp_93 _ 0 (Nat.zero_le _) (Nat.lt_succ_self _) _ _ _ hP hS  (lv_sub hl [2, 3, 4, 1, 0] rfl)
            · have hk2 : kz < 6 := z_ge_f (b := 6) c_41 (by omega) (by omega)
              refine lv_iconst (v := (nI 0)) hx hb dX4_mixCord_44 (by decide) ?_
              refine lv_istore (lv' := [(7, .int (nI 0)), (0, .ref (ad 0)), (3, .int (nI iz)), (4, .long (dgP st iz hz (4 * kz))), (6, .int (nI kz))]) hx hb dX4_mixCord_45 hl (by decide) rfl (fun ls hl => ?_)
              have lp_47 : ∀ (N : Nat) (wz : Nat) (hw : wz ≤ 4), 4 - wz < N → ∀ (H : Heap) (locs : List Loc) (ls : Array Slot), zP D K ad g (zA K ad s.heap.size) H → va_S (zA K ad s.heap.size) s.heap H locs → lv_has ls 8 [(0, .ref (ad 0)), (3, .int (nI iz)), (4, .long (dgP st iz hz (4 * kz + wz))), (6, .int (nI kz)), (7, .int (nI wz))] → W p l e ({ frames := 5, cells := 0, slots := 0, locals := 117 } : Room) s m [.ref (ad 0), .long hz, .int (nI iz)].toArray below meth c H locs 0 0 (MQ below (va_Ql (fun r g1 => r = dgC st iz hz ∧ isT cy K ad g1 st sv nx sz2 ns ss bu ln ∧ zFr zCl g g1) (zOut D cy K ad s.heap.size) (zA K ad s.heap.size)) [.ref (ad 0), .long hz, .int (nI iz)].toArray s 0 0 (zA K ad s.heap.size)) (F0 m 47 ls []) := by
                intro N
                induction N with
                | zero => intro wz hw hN; exact absurd hN (Nat.not_lt_zero _)
                | succ N ih_47 =>
                  intro wz hw hN H locs ls hP hS  hl
                  refine lv_iload hx hb dX4_mixCord_47 (lv_at hl 4 rfl) ?_
                  refine lv_iconst (v := 3) hx hb dX4_mixCord_49 (by decide) ?_
                  refine lv_icmp_gt (tgt := 76) hx hb dX4_mixCord_50 (by decide) (fun c_50 => ?_) (fun c_50 => ?_)
                  · have hk2 : wz = 4 := by have := z_lt_t (j := 3) c_50 (by omega) (by omega); omega
                    subst hk2
                    refine lv_iinc (v := nI (kz + 1)) (lv' := [(6, .int (nI (kz + 1))), (0, .ref (ad 0)), (3, .int (nI iz)), (4, .long (dgP st iz hz (4 * kz + 4))), (7, .int (nI 4))]) hx hb dX4_mixCord_76 hl (k := 3) rfl (z_inc _) (by decide) rfl (fun ls hl => ?_)
                    refine lv_goto (tgt := 37) hx hb dX4_mixCord_79 (by decide) ?_
                    exact ih_37 (kz + 1) (by omega) (by omega) _ _ _ hP hS  (lv_sub hl [1, 2, 3, 0] rfl)
                  · have hk2 : wz ≤ 3 := z_lt_f (j := 3) c_50 (by omega) (by omega)
                    refine lv_lload hx hb dX4_mixCord_53 (lv_at hl 2 rfl) ?_
                    refine lv_aload_n hx hb dX4_mixCord_55 rfl (lv_at hl 0 rfl) ?_
                    refine lv_iload_n hx hb dX4_mixCord_56 rfl (lv_at hl 1 rfl) ?_
                    refine lv_iload hx hb dX4_mixCord_57 (lv_at hl 3 rfl) ?_
                    refine lv_iload hx hb dX4_mixCord_59 (lv_at hl 4 rfl) ?_
                    obtain ⟨fs_61, hfs_61⟩ := hTT.rc
                    refine z_Vi_eq (As := [.int (nI iz), .int (nI kz), .int (nI wz)]) (rest := [.long (dgP st iz hz (4 * kz + wz))]) C0 hP hS hl.1 (m_X4_placeOf l _ hTT hi (by omega) (by omega)) lk_X4_326 hTT.n0 hfs_61 rfl rfl (Nat.le_of_ble_eq_true rfl) ⟨Nat.le_of_ble_eq_true rfl, Nat.le_of_ble_eq_true rfl⟩ rfl rfl ⟨Nat.zero_le _, Nat.zero_le _⟩ dX4_mixCord_61 (fun H locs hP hS => ?_)
                    refine lv_i2l hx hb dX4_mixCord_64 rfl ?_
                    refine z_Sl_eq (As := [.long (dgP st iz hz (4 * kz + wz)), .long ((placeF st iz kz wz).toInt64)]) (rest := []) C0 hP hS hl.1 (m_X4_mix l _ ) lk_X4_256 rfl rfl (Nat.le_of_ble_eq_true rfl) ⟨Nat.le_of_ble_eq_true rfl, Nat.le_of_ble_eq_true rfl⟩ rfl rfl ⟨Nat.zero_le _, Nat.zero_le _⟩ dX4_mixCord_65 (fun H locs hP hS => ?_)
                    refine z_topl (y := dgP st iz hz (4 * kz + wz + 1)) (by rw [← plQ_at st iz kz (w := wz) (by omega)]; rfl) ?_
                    refine lv_lstore (lv' := [(4, .long (dgP st iz hz (4 * kz + wz + 1))), (0, .ref (ad 0)), (3, .int (nI iz)), (6, .int (nI kz)), (7, .int (nI wz))]) hx hb dX4_mixCord_68 hl (by decide) rfl (fun ls hl => ?_)
                    refine lv_iinc (v := nI (wz + 1)) (lv' := [(7, .int (nI (wz + 1))), (4, .long (dgP st iz hz (4 * kz + wz + 1))), (0, .ref (ad 0)), (3, .int (nI iz)), (6, .int (nI kz))]) hx hb dX4_mixCord_70 hl (k := 4) rfl (z_inc _) (by decide) rfl (fun ls hl => ?_)
                    refine lv_goto (tgt := 47) hx hb dX4_mixCord_73 (by decide) ?_
                    exact ih_47 (wz + 1) (by omega) (by omega) _ _ _ hP hS  (lv_sub hl [2, 3, 1, 4, 0] rfl)
              exact lp_47 _ 0 (Nat.zero_le _) (Nat.lt_succ_self _) _ _ _ hP hS  (lv_sub hl [1, 2, 3, 4, 0] rfl)
        exact lp_37 _ 0 (Nat.zero_le _) (Nat.lt_succ_self _) _ _ _ hP hS  (lv_sub hl [1, 2, 3, 0] rfl)
      · have hk2 : kz ≤ 7 := z_lt_f (j := 7) c_10 (by omega) (by omega)
        refine lv_lload hx hb dX4_mixCord_13 (lv_at hl 2 rfl) ?_
        refine lv_aload_n hx hb dX4_mixCord_15 rfl (lv_at hl 0 rfl) ?_
        refine lv_iload_n hx hb dX4_mixCord_16 rfl (lv_at hl 1 rfl) ?_
        refine lv_iload hx hb dX4_mixCord_17 (lv_at hl 3 rfl) ?_
        obtain ⟨fs_19, hfs_19⟩ := hTT.rc
        refine z_Vi_eq (As := [.int (nI iz), .int (nI kz)]) (rest := [.long (dgW st iz hz kz)]) C0 hP hS hl.1 (m_X4_cordOf l _ hTT hi (by omega) hpc) lk_X4_323 hTT.n0 hfs_19 rfl rfl (Nat.le_of_ble_eq_true rfl) ⟨Nat.le_of_ble_eq_true rfl, Nat.le_of_ble_eq_true rfl⟩ rfl rfl ⟨Nat.zero_le _, Nat.zero_le _⟩ dX4_mixCord_19 (fun H locs hP hS => ?_)
        refine lv_i2l hx hb dX4_mixCord_22 rfl ?_
        refine z_Sl_eq (As := [.long (dgW st iz hz kz), .long ((cordF st iz kz).toInt64)]) (rest := []) C0 hP hS hl.1 (m_X4_mix l _ ) lk_X4_256 rfl rfl (Nat.le_of_ble_eq_true rfl) ⟨Nat.le_of_ble_eq_true rfl, Nat.le_of_ble_eq_true rfl⟩ rfl rfl ⟨Nat.zero_le _, Nat.zero_le _⟩ dX4_mixCord_23 (fun H locs hP hS => ?_)
        refine z_topl (y := dgW st iz hz (kz + 1)) rfl ?_
        refine lv_lstore (lv' := [(4, .long (dgW st iz hz (kz + 1))), (0, .ref (ad 0)), (3, .int (nI iz)), (6, .int (nI kz))]) hx hb dX4_mixCord_26 hl (by decide) rfl (fun ls hl => ?_)
        refine lv_iinc (v := nI (kz + 1)) (lv' := [(6, .int (nI (kz + 1))), (4, .long (dgW st iz hz (kz + 1))), (0, .ref (ad 0)), (3, .int (nI iz))]) hx hb dX4_mixCord_28 hl (k := 3) rfl (z_inc _) (by decide) rfl (fun ls hl => ?_)
        refine lv_goto (tgt := 6) hx hb dX4_mixCord_31 (by decide) ?_
        exact ih_6 (kz + 1) (by omega) (by omega) _ _ _ hP hS  (lv_sub hl [2, 3, 1, 0] rfl)
  exact lp_6 _ 0 (Nat.zero_le _) (Nat.lt_succ_self _) _ _ _ hP hS  (lv_sub hl [2, 4, 1, 0] rfl)
set_option maxHeartbeats 4000000 in
set_option maxRecDepth 100000 in
theorem m_X4_digest (l : Launch) {D : va_G} {cy : Nat → ClassId} {K : Nat} {ad : Nat → Nat} {g : Nat → va_E} (sz : Nat) {st : Nat → Int32} {sv : Nat → Nat → Int32} {nx sz2 : Nat} {ns : Nat → Option Nat} {ss : Nat → Nat → Int32} {bu : Nat → Int32} {ln : Nat} (hTT : isT cy K ad g st sv nx sz2 ns ss bu ln) (hpc : pcOK st) (hln : ln ≤ 60) : Met l yX4_digest (zs yX4_digest cX4_digest 4 (some .long)) ({ frames := 12, cells := 0, slots := 0, locals := 342 } : Room) (va_Pc [.ref (ad 0)] (zIn D cy K ad g sz)) (va_Ql (fun r g1 => r = dg9 st sz2 ns bu ln ln ∧ isT cy K ad g1 st sv nx sz2 ns ss bu ln ∧ zFr zCl g g1) (zOut D cy K ad sz) (zA K ad sz)) 0 0 (zA K ad sz) := by
  refine z_met (by decide) (Nat.le_of_ble_eq_true rfl) (fun p e s m below meth c ls hsz hl C0 hr hnm hP hS => ?_)
  subst hsz
  have hl : lv_has ls 4 [(0, .ref (ad 0))] := hl
  have hx := C0.1; have hb := C0.2.1; have hown := C0.2.2.2.1; have hts := C0.2.2.2.2.1
  have hFr : zFr (zCl) g g := zFr.rf
  refine lv_ldc2 hx hb hown (hts _ q304) dX4_digest_0 ?_
  refine lv_lstore_n (lv' := [(1, .long 3673), (0, .ref (ad 0))]) hx hb dX4_digest_3 rfl hl (by decide) rfl (fun ls hl => ?_)
  refine lv_iconst (v := (nI 0)) hx hb dX4_digest_4 (by decide) ?_
  refine lv_istore_n (lv' := [(3, .int (nI 0)), (1, .long 3673), (0, .ref (ad 0))]) hx hb dX4_digest_5 rfl hl (by decide) rfl (fun ls hl => ?_)
  have lp_6 : ∀ (N : Nat) (kz : Nat) (hk : kz ≤ 10), 10 - kz < N → ∀ (H : Heap) (locs : List Loc) (ls : Array Slot), zP D K ad g (zA K ad s.heap.size) H → va_S (zA K ad s.heap.size) s.heap H locs → lv_has ls 4 [(0, .ref (ad 0)), (1, .long (dg1 st sz2 kz)), (3, .int (nI kz))] → W p l e ({ frames := 12, cells := 0, slots := 0, locals := 342 } : Room) s m [.ref (ad 0)].toArray below meth c H locs 0 0 (MQ below (va_Ql (fun r g1 => r = dg9 st sz2 ns bu ln ln ∧ isT cy K ad g1 st sv nx sz2 ns ss bu ln ∧ zFr zCl g g1) (zOut D cy K ad s.heap.size) (zA K ad s.heap.size)) [.ref (ad 0)].toArray s 0 0 (zA K ad s.heap.size)) (F0 m 6 ls []) := by
    intro N
    induction N with
    | zero => intro kz hk hN; exact absurd hN (Nat.not_lt_zero _)
    | succ N ih_6 =>
      intro kz hk hN H locs ls hP hS  hl
      refine lv_iload_n hx hb dX4_digest_6 rfl (lv_at hl 2 rfl) ?_
      refine lv_bipush (v := 9) hx hb dX4_digest_7 (by decide) ?_
      refine lv_icmp_gt (tgt := 29) hx hb dX4_digest_9 (by decide) (fun c_9 => ?_) (fun c_9 => ?_)
      · have hk2 : kz = 10 := by have := z_lt_t (j := 9) c_9 (by omega) (by omega); omega
        subst hk2
        refine lv_iconst (v := (nI 0)) hx hb dX4_digest_29 (by decide) ?_
        refine lv_istore_n (lv' := [(3, .int (nI 0)), (0, .ref (ad 0)), (1, .long (dg1 st sz2 10))]) hx hb dX4_digest_30 rfl hl (by decide) rfl (fun ls hl => ?_)
        have lp_31 : ∀ (N : Nat) (kz : Nat) (hk : kz ≤ 7), 7 - kz < N → ∀ (g_2 : Nat → va_E) (H : Heap) (locs : List Loc) (ls : Array Slot), zP D K ad g_2 (zA K ad s.heap.size) H → va_S (zA K ad s.heap.size) s.heap H locs → isT cy K ad g_2 st sv nx sz2 ns ss bu ln → zFr (zCl) g g_2 → lv_has ls 4 [(0, .ref (ad 0)), (1, .long (dgN st (dg1 st sz2 10) kz)), (3, .int (nI kz))] → W p l e ({ frames := 12, cells := 0, slots := 0, locals := 342 } : Room) s m [.ref (ad 0)].toArray below meth c H locs 0 0 (MQ below (va_Ql (fun r g1 => r = dg9 st sz2 ns bu ln ln ∧ isT cy K ad g1 st sv nx sz2 ns ss bu ln ∧ zFr zCl g g1) (zOut D cy K ad s.heap.size) (zA K ad s.heap.size)) [.ref (ad 0)].toArray s 0 0 (zA K ad s.heap.size)) (F0 m 31 ls []) := by
          intro N
          induction N with
          | zero => intro kz hk hN; exact absurd hN (Nat.not_lt_zero _)
          | succ N ih_31 =>
            intro kz hk hN g_2 H locs ls hP hS hTT hFr hl
            refine lv_iload_n hx hb dX4_digest_31 rfl (lv_at hl 2 rfl) ?_
            refine lv_bipush (v := 7) hx hb dX4_digest_32 (by decide) ?_
            refine lv_icmp_ge (tgt := 50) hx hb dX4_digest_34 (by decide) (fun c_34 => ?_) (fun c_34 => ?_)
            · have hk2 : kz = 7 := by have := z_ge_t (b := 7) c_34 (by omega) (by omega); omega
              subst hk2
              refine lv_iconst (v := (nI 0)) hx hb dX4_digest_50 (by decide) ?_
              refine lv_istore_n (lv' := [(3, .int (nI 0)), (0, .ref (ad 0)), (1, .long (dgN st (dg1 st sz2 10) 7))]) hx hb dX4_digest_51 rfl hl (by decide) rfl (fun ls hl => ?_)
              have lp_52 : ∀ (N : Nat) (kz : Nat) (hk : kz ≤ 6), 6 - kz < N → ∀ (H : Heap) (locs : List Loc) (ls : Array Slot), zP D K ad g_2 (zA K ad s.heap.size) H → va_S (zA K ad s.heap.size) s.heap H locs → lv_has ls 4 [(0, .ref (ad 0)), (1, .long (dg3 st sz2 kz)), (3, .int (nI kz))] → W p l e ({ frames := 12, cells := 0, slots := 0, locals := 342 } : Room) s m [.ref (ad 0)].toArray below meth c H locs 0 0 (MQ below (va_Ql (fun r g1 => r = dg9 st sz2 ns bu ln ln ∧ isT cy K ad g1 st sv nx sz2 ns ss bu ln ∧ zFr zCl g g1) (zOut D cy K ad s.heap.size) (zA K ad s.heap.size)) [.ref (ad 0)].toArray s 0 0 (zA K ad s.heap.size)) (F0 m 52 ls []) := by
                intro N
                induction N with
                | zero => intro kz hk hN; exact absurd hN (Nat.not_lt_zero _)
                | succ N ih_52 =>
                  intro kz hk hN H locs ls hP hS  hl
                  refine lv_iload_n hx hb dX4_digest_52 rfl (lv_at hl 2 rfl) ?_
                  refine lv_bipush (v := 6) hx hb dX4_digest_53 (by decide) ?_
                  refine lv_icmp_ge (tgt := 75) hx hb dX4_digest_55 (by decide) (fun c_55 => ?_) (fun c_55 => ?_)
                  · have hk2 : kz = 6 := by have := z_ge_t (b := 6) c_55 (by omega) (by omega); omega
                    subst hk2
                    refine lv_lload_n hx hb dX4_digest_75 rfl (lv_at hl 1 rfl) ?_
                    refine lv_aload_n hx hb dX4_digest_76 rfl (lv_at hl 0 rfl) ?_
                    refine lv_bipush (v := 95) hx hb dX4_digest_77 (by decide) ?_
                    refine lv_iconst (v := (nI 0)) hx hb dX4_digest_79 (by decide) ?_
                    obtain ⟨fs_80, hfs_80⟩ := hTT.rc
                    refine z_Vi_mo (As := [.int 95, .int (nI 0)]) (rest := [.long (dg3 st sz2 6)]) C0 hP hS hl.1 (m_X4_cordsFor l _ hTT (by decide) (by decide) (by decide)) lk_X4_267 hTT.n0 hfs_80 rfl rfl (Nat.le_of_ble_eq_true rfl) ⟨Nat.le_of_ble_eq_true rfl, Nat.le_of_ble_eq_true rfl⟩ rfl rfl ⟨Nat.zero_le _, Nat.zero_le _⟩ dX4_digest_80 (fun r_80 g_4 H locs hP hS hp => ?_)
                    obtain ⟨hr_80, hTT, hF1⟩ := hp
                    subst hr_80
                    have hFr := hFr.tr (hF1.mono (by intro x9 hx9; first | (dsimp only [zOne, zRg, zCl] at hx9 ⊢; omega) | (dsimp only at hx9 ⊢; omega) | omega))
                    refine lv_i2l hx hb dX4_digest_83 rfl ?_
                    refine z_Sl_eq (As := [.long (dg3 st sz2 6), .long ((forF (cTold st) 95 0).toInt64)]) (rest := []) C0 hP hS hl.1 (m_X4_mix l _ ) lk_X4_256 rfl rfl (Nat.le_of_ble_eq_true rfl) ⟨Nat.le_of_ble_eq_true rfl, Nat.le_of_ble_eq_true rfl⟩ rfl rfl ⟨Nat.zero_le _, Nat.zero_le _⟩ dX4_digest_84 (fun H locs hP hS => ?_)
                    refine lv_lstore_n (lv' := [(1, .long (31 * (dg3 st sz2 6) + ((forF (cTold st) 95 0).toInt64))), (0, .ref (ad 0)), (3, .int (nI 6))]) hx hb dX4_digest_87 rfl hl (by decide) rfl (fun ls hl => ?_)
                    refine lv_lload_n hx hb dX4_digest_88 rfl (lv_at hl 0 rfl) ?_
                    refine lv_aload_n hx hb dX4_digest_89 rfl (lv_at hl 1 rfl) ?_
                    refine lv_bipush (v := 95) hx hb dX4_digest_90 (by decide) ?_
                    refine lv_iconst (v := (nI 1)) hx hb dX4_digest_92 (by decide) ?_
                    obtain ⟨fs_93, hfs_93⟩ := hTT.rc
                    refine z_Vi_mo (As := [.int 95, .int (nI 1)]) (rest := [.long (31 * (dg3 st sz2 6) + ((forF (cTold st) 95 0).toInt64))]) C0 hP hS hl.1 (m_X4_cordsFor l _ hTT (by decide) (by decide) (by decide)) lk_X4_267 hTT.n0 hfs_93 rfl rfl (Nat.le_of_ble_eq_true rfl) ⟨Nat.le_of_ble_eq_true rfl, Nat.le_of_ble_eq_true rfl⟩ rfl rfl ⟨Nat.zero_le _, Nat.zero_le _⟩ dX4_digest_93 (fun r_93 g_5 H locs hP hS hp => ?_)
                    obtain ⟨hr_93, hTT, hF1⟩ := hp
                    subst hr_93
                    have hFr := hFr.tr (hF1.mono (by intro x9 hx9; first | (dsimp only [zOne, zRg, zCl] at hx9 ⊢; omega) | (dsimp only at hx9 ⊢; omega) | omega))
                    refine lv_i2l hx hb dX4_digest_96 rfl ?_
                    refine z_Sl_eq (As := [.long (31 * (dg3 st sz2 6) + ((forF (cTold st) 95 0).toInt64)), .long ((forF (cTold st) 95 1).toInt64)]) (rest := []) C0 hP hS hl.1 (m_X4_mix l _ ) lk_X4_256 rfl rfl (Nat.le_of_ble_eq_true rfl) ⟨Nat.le_of_ble_eq_true rfl, Nat.le_of_ble_eq_true rfl⟩ rfl rfl ⟨Nat.zero_le _, Nat.zero_le _⟩ dX4_digest_97 (fun H locs hP hS => ?_)
                    refine lv_lstore_n (lv' := [(1, .long (31 * (31 * (dg3 st sz2 6) + ((forF (cTold st) 95 0).toInt64)) + ((forF (cTold st) 95 1).toInt64))), (0, .ref (ad 0)), (3, .int (nI 6))]) hx hb dX4_digest_100 rfl hl (by decide) rfl (fun ls hl => ?_)
                    refine lv_lload_n hx hb dX4_digest_101 rfl (lv_at hl 0 rfl) ?_
                    refine lv_aload_n hx hb dX4_digest_102 rfl (lv_at hl 1 rfl) ?_
                    refine lv_sipush (v := 1234) hx hb dX4_digest_103 (by decide) ?_
                    refine lv_iconst (v := (nI 0)) hx hb dX4_digest_106 (by decide) ?_
                    obtain ⟨fs_107, hfs_107⟩ := hTT.rc
                    refine z_Vi_mo (As := [.int 1234, .int (nI 0)]) (rest := [.long (31 * (31 * (dg3 st sz2 6) + ((forF (cTold st) 95 0).toInt64)) + ((forF (cTold st) 95 1).toInt64))]) C0 hP hS hl.1 (m_X4_cordsFor l _ hTT (by decide) (by decide) (by decide)) lk_X4_267 hTT.n0 hfs_107 rfl rfl (Nat.le_of_ble_eq_true rfl) ⟨Nat.le_of_ble_eq_true rfl, Nat.le_of_ble_eq_true rfl⟩ rfl rfl ⟨Nat.zero_le _, Nat.zero_le _⟩ dX4_digest_107 (fun r_107 g_6 H locs hP hS hp => ?_)
                    obtain ⟨hr_107, hTT, hF1⟩ := hp
                    subst hr_107
                    have hFr := hFr.tr (hF1.mono (by intro x9 hx9; first | (dsimp only [zOne, zRg, zCl] at hx9 ⊢; omega) | (dsimp only at hx9 ⊢; omega) | omega))
                    refine lv_i2l hx hb dX4_digest_110 rfl ?_
                    refine z_Sl_eq (As := [.long (31 * (31 * (dg3 st sz2 6) + ((forF (cTold st) 95 0).toInt64)) + ((forF (cTold st) 95 1).toInt64)), .long ((forF (cTold st) 1234 0).toInt64)]) (rest := []) C0 hP hS hl.1 (m_X4_mix l _ ) lk_X4_256 rfl rfl (Nat.le_of_ble_eq_true rfl) ⟨Nat.le_of_ble_eq_true rfl, Nat.le_of_ble_eq_true rfl⟩ rfl rfl ⟨Nat.zero_le _, Nat.zero_le _⟩ dX4_digest_111 (fun H locs hP hS => ?_)
                    refine lv_lstore_n (lv' := [(1, .long (31 * (31 * (31 * (dg3 st sz2 6) + ((forF (cTold st) 95 0).toInt64)) + ((forF (cTold st) 95 1).toInt64)) + ((forF (cTold st) 1234 0).toInt64))), (0, .ref (ad 0)), (3, .int (nI 6))]) hx hb dX4_digest_114 rfl hl (by decide) rfl (fun ls hl => ?_)
                    refine lv_lload_n hx hb dX4_digest_115 rfl (lv_at hl 0 rfl) ?_
                    refine lv_aload_n hx hb dX4_digest_116 rfl (lv_at hl 1 rfl) ?_
                    refine lv_sipush (v := 1234) hx hb dX4_digest_117 (by decide) ?_
                    refine lv_iconst (v := (nI 1)) hx hb dX4_digest_120 (by decide) ?_
                    obtain ⟨fs_121, hfs_121⟩ := hTT.rc
                    refine z_Vi_mo (As := [.int 1234, .int (nI 1)]) (rest := [.long (31 * (31 * (31 * (dg3 st sz2 6) + ((forF (cTold st) 95 0).toInt64)) + ((forF (cTold st) 95 1).toInt64)) + ((forF (cTold st) 1234 0).toInt64))]) C0 hP hS hl.1 (m_X4_cordsFor l _ hTT (by decide) (by decide) (by decide)) lk_X4_267 hTT.n0 hfs_121 rfl rfl (Nat.le_of_ble_eq_true rfl) ⟨Nat.le_of_ble_eq_true rfl, Nat.le_of_ble_eq_true rfl⟩ rfl rfl ⟨Nat.zero_le _, Nat.zero_le _⟩ dX4_digest_121 (fun r_121 g_7 H locs hP hS hp => ?_)
                    obtain ⟨hr_121, hTT, hF1⟩ := hp
                    subst hr_121
                    have hFr := hFr.tr (hF1.mono (by intro x9 hx9; first | (dsimp only [zOne, zRg, zCl] at hx9 ⊢; omega) | (dsimp only at hx9 ⊢; omega) | omega))
                    refine lv_i2l hx hb dX4_digest_124 rfl ?_
                    refine z_Sl_eq (As := [.long (31 * (31 * (31 * (dg3 st sz2 6) + ((forF (cTold st) 95 0).toInt64)) + ((forF (cTold st) 95 1).toInt64)) + ((forF (cTold st) 1234 0).toInt64)), .long ((forF (cTold st) 1234 1).toInt64)]) (rest := []) C0 hP hS hl.1 (m_X4_mix l _ ) lk_X4_256 rfl rfl (Nat.le_of_ble_eq_true rfl) ⟨Nat.le_of_ble_eq_true rfl, Nat.le_of_ble_eq_true rfl⟩ rfl rfl ⟨Nat.zero_le _, Nat.zero_le _⟩ dX4_digest_125 (fun H locs hP hS => ?_)
                    refine z_topl (y := dg4 st sz2) rfl ?_
                    refine lv_lstore_n (lv' := [(1, .long (dg4 st sz2)), (0, .ref (ad 0)), (3, .int (nI 6))]) hx hb dX4_digest_128 rfl hl (by decide) rfl (fun ls hl => ?_)
                    refine lv_lload_n hx hb dX4_digest_129 rfl (lv_at hl 0 rfl) ?_
                    refine lv_aload_n hx hb dX4_digest_130 rfl (lv_at hl 1 rfl) ?_
                    obtain ⟨fs_131, hfs_131⟩ := hTT.rc
                    refine z_Vi_eq (As := []) (rest := [.long (dg4 st sz2)]) C0 hP hS hl.1 (m_X4_fullest l _ hTT) lk_X4_270 hTT.n0 hfs_131 rfl rfl (Nat.le_of_ble_eq_true rfl) ⟨Nat.le_of_ble_eq_true rfl, Nat.le_of_ble_eq_true rfl⟩ rfl rfl ⟨Nat.zero_le _, Nat.zero_le _⟩ dX4_digest_131 (fun H locs hP hS => ?_)
                    refine lv_i2l hx hb dX4_digest_134 rfl ?_
                    refine z_Sl_eq (As := [.long (dg4 st sz2), .long ((nI (fulN st 6)).toInt64)]) (rest := []) C0 hP hS hl.1 (m_X4_mix l _ ) lk_X4_256 rfl rfl (Nat.le_of_ble_eq_true rfl) ⟨Nat.le_of_ble_eq_true rfl, Nat.le_of_ble_eq_true rfl⟩ rfl rfl ⟨Nat.zero_le _, Nat.zero_le _⟩ dX4_digest_135 (fun H locs hP hS => ?_)
                    refine lv_lstore_n (lv' := [(1, .long (31 * (dg4 st sz2) + ((nI (fulN st 6)).toInt64))), (0, .ref (ad 0)), (3, .int (nI 6))]) hx hb dX4_digest_138 rfl hl (by decide) rfl (fun ls hl => ?_)
                    refine lv_lload_n hx hb dX4_digest_139 rfl (lv_at hl 0 rfl) ?_
                    refine lv_aload_n hx hb dX4_digest_140 rfl (lv_at hl 1 rfl) ?_
                    obtain ⟨fs_141, hfs_141⟩ := hTT.rc
                    refine z_Vd_eq (As := []) (rest := [.long (31 * (dg4 st sz2) + ((nI (fulN st 6)).toInt64))]) C0 hP hS hl.1 (m_X4_closedShare l _ hTT) lk_X4_273 hTT.n0 hfs_141 rfl rfl (Nat.le_of_ble_eq_true rfl) ⟨Nat.le_of_ble_eq_true rfl, Nat.le_of_ble_eq_true rfl⟩ rfl rfl ⟨Nat.zero_le _, Nat.zero_le _⟩ dX4_digest_141 (fun H locs hP hS => ?_)
                    refine z_Sl_eq (As := [.double (shaF (10 * sumN (allL st) 7) (sumN (allK st) 7))]) (rest := [.long (31 * (dg4 st sz2) + ((nI (fulN st 6)).toInt64))]) C0 hP hS hl.1 (m_X4_bitsOfShare l _ (sha_ok _ _)) lk_X4_277 rfl rfl (Nat.le_of_ble_eq_true rfl) ⟨Nat.le_of_ble_eq_true rfl, Nat.le_of_ble_eq_true rfl⟩ rfl rfl ⟨Nat.zero_le _, Nat.zero_le _⟩ dX4_digest_144 (fun H locs hP hS => ?_)
                    refine z_Sl_eq (As := [.long (31 * (dg4 st sz2) + ((nI (fulN st 6)).toInt64)), .long (bitsF (shaF (10 * sumN (allL st) 7) (sumN (allK st) 7)))]) (rest := []) C0 hP hS hl.1 (m_X4_mix l _ ) lk_X4_256 rfl rfl (Nat.le_of_ble_eq_true rfl) ⟨Nat.le_of_ble_eq_true rfl, Nat.le_of_ble_eq_true rfl⟩ rfl rfl ⟨Nat.zero_le _, Nat.zero_le _⟩ dX4_digest_147 (fun H locs hP hS => ?_)
                    refine z_topl (y := dg6 st sz2) rfl ?_
                    refine lv_lstore_n (lv' := [(1, .long (dg6 st sz2)), (0, .ref (ad 0)), (3, .int (nI 6))]) hx hb dX4_digest_150 rfl hl (by decide) rfl (fun ls hl => ?_)
                    refine lv_iconst (v := (nI 0)) hx hb dX4_digest_151 (by decide) ?_
                    refine lv_istore_n (lv' := [(3, .int (nI 0)), (1, .long (dg6 st sz2)), (0, .ref (ad 0))]) hx hb dX4_digest_152 rfl hl (by decide) rfl (fun ls hl => ?_)
                    have lp_153 : ∀ (N : Nat) (kz : Nat) (hk : kz ≤ 2), 2 - kz < N → ∀ (H : Heap) (locs : List Loc) (ls : Array Slot), zP D K ad g_7 (zA K ad s.heap.size) H → va_S (zA K ad s.heap.size) s.heap H locs → lv_has ls 4 [(0, .ref (ad 0)), (1, .long (dg7 st sz2 ns kz)), (3, .int (nI kz))] → W p l e ({ frames := 12, cells := 0, slots := 0, locals := 342 } : Room) s m [.ref (ad 0)].toArray below meth c H locs 0 0 (MQ below (va_Ql (fun r g1 => r = dg9 st sz2 ns bu ln ln ∧ isT cy K ad g1 st sv nx sz2 ns ss bu ln ∧ zFr zCl g g1) (zOut D cy K ad s.heap.size) (zA K ad s.heap.size)) [.ref (ad 0)].toArray s 0 0 (zA K ad s.heap.size)) (F0 m 153 ls []) := by
                      intro N
                      induction N with
                      | zero => intro kz hk hN; exact absurd hN (Nat.not_lt_zero _)
                      | succ N ih_153 =>
                        intro kz hk hN H locs ls hP hS  hl
                        refine lv_iload_n hx hb dX4_digest_153 rfl (lv_at hl 2 rfl) ?_
                        refine lv_iconst (v := 2) hx hb dX4_digest_154 (by decide) ?_
                        refine lv_icmp_ge (tgt := 183) hx hb dX4_digest_155 (by decide) (fun c_155 => ?_) (fun c_155 => ?_)
                        · have hk2 : kz = 2 := by have := z_ge_t (b := 2) c_155 (by omega) (by omega); omega
                          subst hk2
                          obtain ⟨sn, tl, rs, x, hX, hH, hHi, hRs, hTr, hSn⟩ := id hTT
                          refine lv_lload_n hx hb dX4_digest_183 rfl (lv_at hl 1 rfl) ?_
                          refine lv_aload_n hx hb dX4_digest_184 rfl (lv_at hl 0 rfl) ?_
                          refine z_get C0 hP hX.n0 hX.o fd_X4_31 rfl dX4_digest_185 ?_
                          refine lv_i2l hx hb dX4_digest_188 rfl ?_
                          refine z_Sl_eq (As := [.long (dg7 st sz2 ns 2), .long ((nI ln).toInt64)]) (rest := []) C0 hP hS hl.1 (m_X4_mix l _ ) lk_X4_256 rfl rfl (Nat.le_of_ble_eq_true rfl) ⟨Nat.le_of_ble_eq_true rfl, Nat.le_of_ble_eq_true rfl⟩ rfl rfl ⟨Nat.zero_le _, Nat.zero_le _⟩ dX4_digest_189 (fun H locs hP hS => ?_)
                          refine z_topl (y := dg9 st sz2 ns bu ln 0) rfl ?_
                          refine lv_lstore_n (lv' := [(1, .long (dg9 st sz2 ns bu ln 0)), (0, .ref (ad 0)), (3, .int (nI 2))]) hx hb dX4_digest_192 rfl hl (by decide) rfl (fun ls hl => ?_)
                          refine lv_iconst (v := (nI 0)) hx hb dX4_digest_193 (by decide) ?_
                          refine lv_istore_n (lv' := [(3, .int (nI 0)), (1, .long (dg9 st sz2 ns bu ln 0)), (0, .ref (ad 0))]) hx hb dX4_digest_194 rfl hl (by decide) rfl (fun ls hl => ?_)
                          have lp_195 : ∀ (N : Nat) (kz : Nat) (hk : kz ≤ ln), ln - kz < N → ∀ (H : Heap) (locs : List Loc) (ls : Array Slot), zP D K ad g_7 (zA K ad s.heap.size) H → va_S (zA K ad s.heap.size) s.heap H locs → lv_has ls 4 [(0, .ref (ad 0)), (1, .long (dg9 st sz2 ns bu ln kz)), (3, .int (nI kz))] → W p l e ({ frames := 12, cells := 0, slots := 0, locals := 342 } : Room) s m [.ref (ad 0)].toArray below meth c H locs 0 0 (MQ below (va_Ql (fun r g1 => r = dg9 st sz2 ns bu ln ln ∧ isT cy K ad g1 st sv nx sz2 ns ss bu ln ∧ zFr zCl g g1) (zOut D cy K ad s.heap.size) (zA K ad s.heap.size)) [.ref (ad 0)].toArray s 0 0 (zA K ad s.heap.size)) (F0 m 195 ls []) := by
                            intro N
                            induction N with
                            | zero => intro kz hk hN; exact absurd hN (Nat.not_lt_zero _)
                            | succ N ih_195 =>
                              intro kz hk hN H locs ls hP hS  hl
                              refine lv_iload_n hx hb dX4_digest_195 rfl (lv_at hl 2 rfl) ?_
                              obtain ⟨sn, tl, rs, x, hX, hH, hHi, hRs, hTr, hSn⟩ := id hTT
                              refine lv_aload_n hx hb dX4_digest_196 rfl (lv_at hl 0 rfl) ?_
                              refine z_get C0 hP hX.n0 hX.o fd_X4_31 rfl dX4_digest_197 ?_
                              refine lv_icmp_ge (tgt := 221) hx hb dX4_digest_200 (by decide) (fun c_200 => ?_) (fun c_200 => ?_)
                              · have hk2 : kz = ln := by have := z_ge_t c_200 (by omega) (by omega); omega
                                subst hk2
                                refine lv_lload_n hx hb dX4_digest_221 rfl (lv_at hl 1 rfl) ?_
                                exact z_lret C0 hP hS hr (⟨rfl, hTT, hFr⟩) dX4_digest_222
                              · have hk2 : kz < ln := z_ge_f c_200 (by omega) (by omega)
                                refine lv_lload_n hx hb dX4_digest_203 rfl (lv_at hl 1 rfl) ?_
                                refine lv_aload_n hx hb dX4_digest_204 rfl (lv_at hl 0 rfl) ?_
                                refine z_get C0 hP hX.n0 hX.o fd_X4_27 rfl dX4_digest_205 ?_
                                refine lv_iload_n hx hb dX4_digest_208 rfl (lv_at hl 2 rfl) ?_
                                refine z_cald C0 hP hX.n214 hX.a_bu (zIx_nI (by omega) (by decide)) dX4_digest_209 ?_
                                refine lv_i2l hx hb dX4_digest_210 rfl ?_
                                refine z_Sl_eq (As := [.long (dg9 st sz2 ns bu ln kz), .long ((bu kz).toInt64)]) (rest := []) C0 hP hS hl.1 (m_X4_mix l _ ) lk_X4_256 rfl rfl (Nat.le_of_ble_eq_true rfl) ⟨Nat.le_of_ble_eq_true rfl, Nat.le_of_ble_eq_true rfl⟩ rfl rfl ⟨Nat.zero_le _, Nat.zero_le _⟩ dX4_digest_211 (fun H locs hP hS => ?_)
                                refine z_topl (y := dg9 st sz2 ns bu ln (kz + 1)) rfl ?_
                                refine lv_lstore_n (lv' := [(1, .long (dg9 st sz2 ns bu ln (kz + 1))), (0, .ref (ad 0)), (3, .int (nI kz))]) hx hb dX4_digest_214 rfl hl (by decide) rfl (fun ls hl => ?_)
                                refine lv_iinc (v := nI (kz + 1)) (lv' := [(3, .int (nI (kz + 1))), (1, .long (dg9 st sz2 ns bu ln (kz + 1))), (0, .ref (ad 0))]) hx hb dX4_digest_215 hl (k := 2) rfl (z_inc _) (by decide) rfl (fun ls hl => ?_)
                                refine lv_goto (tgt := 195) hx hb dX4_digest_218 (by decide) ?_
                                exact ih_195 (kz + 1) hk2 (by omega) _ _ _ hP hS  (lv_sub hl [2, 1, 0] rfl)
                          exact lp_195 _ 0 (Nat.zero_le _) (Nat.lt_succ_self _) _ _ _ hP hS  (lv_sub hl [2, 1, 0] rfl)
                        · have hk2 : kz < 2 := z_ge_f (b := 2) c_155 (by omega) (by omega)
                          obtain ⟨sn, tl, rs, x, hX, hH, hHi, hRs, hTr, hSn⟩ := id hTT
                          refine lv_lload_n hx hb dX4_digest_158 rfl (lv_at hl 1 rfl) ?_
                          refine lv_aload_n hx hb dX4_digest_159 rfl (lv_at hl 0 rfl) ?_
                          refine z_get C0 hP hX.n0 hX.o fd_X4_23 rfl dX4_digest_160 ?_
                          refine lv_iload_n hx hb dX4_digest_163 rfl (lv_at hl 2 rfl) ?_
                          cases hns : ns kz with
                          | none =>
                            refine z_aald C0 hP hX.n213 hX.a_sn rfl (zIx_nI (by omega) (by decide)) (congrArg va_rf (((hSn.1 kz (by omega)).1).trans (congrArg (Option.map ad) hns))) dX4_digest_164 ?_
                            refine lv_ifnonnullN hx hb dX4_digest_165 ?_
                            refine lv_lconst (v := 0) hx hb dX4_digest_168 (by decide) ?_
                            refine lv_goto (tgt := 173) hx hb dX4_digest_169 (by decide) ?_
                            refine z_Sl_eq (As := [.long (dg7 st sz2 ns kz), .long 0]) (rest := []) C0 hP hS hl.1 (m_X4_mix l _ ) lk_X4_256 rfl rfl (Nat.le_of_ble_eq_true rfl) ⟨Nat.le_of_ble_eq_true rfl, Nat.le_of_ble_eq_true rfl⟩ rfl rfl ⟨Nat.zero_le _, Nat.zero_le _⟩ dX4_digest_173 (fun H locs hP hS => ?_)
                            refine z_topl (y := dg7 st sz2 ns (kz + 1)) (by show _ = mx (dg7 st sz2 ns kz) (if (ns kz).isSome then 1 else 0); rw [hns]; rfl) ?_
                            refine lv_lstore_n (lv' := [(1, .long (dg7 st sz2 ns (kz + 1))), (0, .ref (ad 0)), (3, .int (nI kz))]) hx hb dX4_digest_176 rfl hl (by decide) rfl (fun ls hl => ?_)
                            refine lv_iinc (v := nI (kz + 1)) (lv' := [(3, .int (nI (kz + 1))), (1, .long (dg7 st sz2 ns (kz + 1))), (0, .ref (ad 0))]) hx hb dX4_digest_177 hl (k := 2) rfl (z_inc _) (by decide) rfl (fun ls hl => ?_)
                            refine lv_goto (tgt := 153) hx hb dX4_digest_180 (by decide) ?_
                            exact ih_153 (kz + 1) (by omega) (by omega) _ _ _ hP hS  (lv_sub hl [2, 1, 0] rfl)
                          | some na =>
                            refine z_aald C0 hP hX.n213 hX.a_sn rfl (zIx_nI (by omega) (by decide)) (congrArg va_rf (((hSn.1 kz (by omega)).1).trans (congrArg (Option.map ad) hns))) dX4_digest_164 ?_
                            refine lv_ifnonnull (tgt := 172) hx hb dX4_digest_165 (by decide) ?_
                            refine lv_lconst (v := 1) hx hb dX4_digest_172 (by decide) ?_
                            refine z_Sl_eq (As := [.long (dg7 st sz2 ns kz), .long 1]) (rest := []) C0 hP hS hl.1 (m_X4_mix l _ ) lk_X4_256 rfl rfl (Nat.le_of_ble_eq_true rfl) ⟨Nat.le_of_ble_eq_true rfl, Nat.le_of_ble_eq_true rfl⟩ rfl rfl ⟨Nat.zero_le _, Nat.zero_le _⟩ dX4_digest_173 (fun H locs hP hS => ?_)
                            refine z_topl (y := dg7 st sz2 ns (kz + 1)) (by show _ = mx (dg7 st sz2 ns kz) (if (ns kz).isSome then 1 else 0); rw [hns]; rfl) ?_
                            refine lv_lstore_n (lv' := [(1, .long (dg7 st sz2 ns (kz + 1))), (0, .ref (ad 0)), (3, .int (nI kz))]) hx hb dX4_digest_176 rfl hl (by decide) rfl (fun ls hl => ?_)
                            refine lv_iinc (v := nI (kz + 1)) (lv' := [(3, .int (nI (kz + 1))), (1, .long (dg7 st sz2 ns (kz + 1))), (0, .ref (ad 0))]) hx hb dX4_digest_177 hl (k := 2) rfl (z_inc _) (by decide) rfl (fun ls hl => ?_)
                            refine lv_goto (tgt := 153) hx hb dX4_digest_180 (by decide) ?_
                            exact ih_153 (kz + 1) (by omega) (by omega) _ _ _ hP hS  (lv_sub hl [2, 1, 0] rfl)
                    exact lp_153 _ 0 (Nat.zero_le _) (Nat.lt_succ_self _) _ _ _ hP hS  (lv_sub hl [2, 1, 0] rfl)
                  · have hk2 : kz < 6 := z_ge_f (b := 6) c_55 (by omega) (by omega)
                    refine lv_lload_n hx hb dX4_digest_58 rfl (lv_at hl 1 rfl) ?_
                    refine lv_aload_n hx hb dX4_digest_59 rfl (lv_at hl 0 rfl) ?_
                    refine lv_iload_n hx hb dX4_digest_60 rfl (lv_at hl 2 rfl) ?_
                    obtain ⟨fs_61, hfs_61⟩ := hTT.rc
                    refine z_Vi_eq (As := [.int (nI kz)]) (rest := [.long (dg3 st sz2 kz)]) C0 hP hS hl.1 (m_X4_byHue l _ hTT (nI_pos (by omega)) (nI_lt (b := 6) hk2 (by decide))) lk_X4_264 hTT.n0 hfs_61 rfl rfl (Nat.le_of_ble_eq_true rfl) ⟨Nat.le_of_ble_eq_true rfl, Nat.le_of_ble_eq_true rfl⟩ rfl rfl ⟨Nat.zero_le _, Nat.zero_le _⟩ dX4_digest_61 (fun H locs hP hS => ?_)
                    refine lv_i2l hx hb dX4_digest_64 rfl ?_
                    refine z_Sl_eq (As := [.long (dg3 st sz2 kz), .long ((sumN (hueN st (nI kz)) 7).toInt64)]) (rest := []) C0 hP hS hl.1 (m_X4_mix l _ ) lk_X4_256 rfl rfl (Nat.le_of_ble_eq_true rfl) ⟨Nat.le_of_ble_eq_true rfl, Nat.le_of_ble_eq_true rfl⟩ rfl rfl ⟨Nat.zero_le _, Nat.zero_le _⟩ dX4_digest_65 (fun H locs hP hS => ?_)
                    refine z_topl (y := dg3 st sz2 (kz + 1)) rfl ?_
                    refine lv_lstore_n (lv' := [(1, .long (dg3 st sz2 (kz + 1))), (0, .ref (ad 0)), (3, .int (nI kz))]) hx hb dX4_digest_68 rfl hl (by decide) rfl (fun ls hl => ?_)
                    refine lv_iinc (v := nI (kz + 1)) (lv' := [(3, .int (nI (kz + 1))), (1, .long (dg3 st sz2 (kz + 1))), (0, .ref (ad 0))]) hx hb dX4_digest_69 hl (k := 2) rfl (z_inc _) (by decide) rfl (fun ls hl => ?_)
                    refine lv_goto (tgt := 52) hx hb dX4_digest_72 (by decide) ?_
                    exact ih_52 (kz + 1) (by omega) (by omega) _ _ _ hP hS  (lv_sub hl [2, 1, 0] rfl)
              exact lp_52 _ 0 (Nat.zero_le _) (Nat.lt_succ_self _) _ _ _ hP hS  (lv_sub hl [1, 2, 0] rfl)
            · have hk2 : kz < 7 := z_ge_f (b := 7) c_34 (by omega) (by omega)
              refine lv_aload_n hx hb dX4_digest_37 rfl (lv_at hl 0 rfl) ?_
              refine lv_lload_n hx hb dX4_digest_38 rfl (lv_at hl 1 rfl) ?_
              refine lv_iload_n hx hb dX4_digest_39 rfl (lv_at hl 2 rfl) ?_
              obtain ⟨fs_40, hfs_40⟩ := hTT.rc
              refine z_Vl_mo (As := [.long (dgN st (dg1 st sz2 10) kz), .int (nI kz)]) (rest := []) C0 hP hS hl.1 (m_X4_mixCord l _ hTT hk2 hpc) lk_X4_260 hTT.n0 hfs_40 rfl rfl (Nat.le_of_ble_eq_true rfl) ⟨Nat.le_of_ble_eq_true rfl, Nat.le_of_ble_eq_true rfl⟩ rfl rfl ⟨Nat.zero_le _, Nat.zero_le _⟩ dX4_digest_40 (fun r_40 g_10 H locs hP hS hp => ?_)
              obtain ⟨hr_40, hTT, hF1⟩ := hp
              subst hr_40
              have hFr := hFr.tr (hF1.mono (by intro x9 hx9; first | (dsimp only [zOne, zRg, zCl] at hx9 ⊢; omega) | (dsimp only at hx9 ⊢; omega) | omega))
              refine z_topl (y := dgN st (dg1 st sz2 10) (kz + 1)) rfl ?_
              refine lv_lstore_n (lv' := [(1, .long (dgN st (dg1 st sz2 10) (kz + 1))), (0, .ref (ad 0)), (3, .int (nI kz))]) hx hb dX4_digest_43 rfl hl (by decide) rfl (fun ls hl => ?_)
              refine lv_iinc (v := nI (kz + 1)) (lv' := [(3, .int (nI (kz + 1))), (1, .long (dgN st (dg1 st sz2 10) (kz + 1))), (0, .ref (ad 0))]) hx hb dX4_digest_44 hl (k := 2) rfl (z_inc _) (by decide) rfl (fun ls hl => ?_)
              refine lv_goto (tgt := 31) hx hb dX4_digest_47 (by decide) ?_
              exact ih_31 (kz + 1) (by omega) (by omega) _ _ _ _ hP hS hTT hFr (lv_sub hl [2, 1, 0] rfl)
        exact lp_31 _ 0 (Nat.zero_le _) (Nat.lt_succ_self _) _ _ _ _ hP hS hTT hFr (lv_sub hl [1, 2, 0] rfl)
      · have hk2 : kz ≤ 9 := z_lt_f (j := 9) c_9 (by omega) (by omega)
        refine lv_lload_n hx hb dX4_digest_12 rfl (lv_at hl 1 rfl) ?_
        refine lv_aload_n hx hb dX4_digest_13 rfl (lv_at hl 0 rfl) ?_
        refine lv_iload_n hx hb dX4_digest_14 rfl (lv_at hl 2 rfl) ?_
        obtain ⟨fs_15, hfs_15⟩ := hTT.rc
        refine z_Vi_eq (As := [.int (nI kz)]) (rest := [.long (dg1 st sz2 kz)]) C0 hP hS hl.1 (m_X4_count l _ hTT (by omega) hpc) lk_X4_253 hTT.n0 hfs_15 rfl rfl (Nat.le_of_ble_eq_true rfl) ⟨Nat.le_of_ble_eq_true rfl, Nat.le_of_ble_eq_true rfl⟩ rfl rfl ⟨Nat.zero_le _, Nat.zero_le _⟩ dX4_digest_15 (fun H locs hP hS => ?_)
        refine lv_i2l hx hb dX4_digest_18 rfl ?_
        refine z_Sl_eq (As := [.long (dg1 st sz2 kz), .long ((countF st sz2 kz).toInt64)]) (rest := []) C0 hP hS hl.1 (m_X4_mix l _ ) lk_X4_256 rfl rfl (Nat.le_of_ble_eq_true rfl) ⟨Nat.le_of_ble_eq_true rfl, Nat.le_of_ble_eq_true rfl⟩ rfl rfl ⟨Nat.zero_le _, Nat.zero_le _⟩ dX4_digest_19 (fun H locs hP hS => ?_)
        refine z_topl (y := dg1 st sz2 (kz + 1)) rfl ?_
        refine lv_lstore_n (lv' := [(1, .long (dg1 st sz2 (kz + 1))), (0, .ref (ad 0)), (3, .int (nI kz))]) hx hb dX4_digest_22 rfl hl (by decide) rfl (fun ls hl => ?_)
        refine lv_iinc (v := nI (kz + 1)) (lv' := [(3, .int (nI (kz + 1))), (1, .long (dg1 st sz2 (kz + 1))), (0, .ref (ad 0))]) hx hb dX4_digest_23 hl (k := 2) rfl (z_inc _) (by decide) rfl (fun ls hl => ?_)
        refine lv_goto (tgt := 6) hx hb dX4_digest_26 (by decide) ?_
        exact ih_6 (kz + 1) (by omega) (by omega) _ _ _ hP hS  (lv_sub hl [2, 1, 0] rfl)
  exact lp_6 _ 0 (Nat.zero_le _) (Nat.lt_succ_self _) _ _ _ hP hS  (lv_sub hl [2, 1, 0] rfl)
set_option maxHeartbeats 4000000 in
set_option maxRecDepth 100000 in
theorem m_X4_goBack (l : Launch) {D : va_G} {cy : Nat → ClassId} {K : Nat} {ad : Nat → Nat} {g : Nat → va_E} (sz : Nat) {st : Nat → Int32} {sv : Nat → Nat → Int32} {nx sz2 : Nat} {ns : Nat → Option Nat} {ss : Nat → Nat → Int32} {bu : Nat → Int32} {ln : Nat} {jz na : Nat} (hTT : isT cy K ad g st sv nx sz2 ns ss bu ln) (hj : jz < 2) (hns : ns jz = some na) (hnx : nx < 6) (hsz : sz2 ≤ 6) : Met l yX4_goBack (zs yX4_goBack cX4_goBack 3 (some .int)) ({ frames := 4, cells := 0, slots := 0, locals := 124 } : Room) (va_Pc [.ref (ad 0), .int (nI jz)] (zIn D cy K ad g sz)) (va_Qi (fun r g1 => r = sumN (allK (ss jz)) 7 + sumN (allL (ss jz)) 7 ∧ isT cy K ad g1 (ss jz) (va_up sv nx st) ((nx + 1) % 6) (min (sz2 + 1) 6) ns ss bu ln ∧ zFr zCl g g1) (zOut D cy K ad sz) (zA K ad sz)) 0 0 (zA K ad sz) := by
  refine z_met (by decide) (Nat.le_of_ble_eq_true rfl) (fun p e s m below meth c ls hsz hl C0 hr hnm hP hS => ?_)
  subst hsz
  have hl : lv_has ls 3 [(0, .ref (ad 0)), (1, .int (nI jz))] := hl
  have hx := C0.1; have hb := C0.2.1; have hown := C0.2.2.2.1; have hts := C0.2.2.2.2.1
  have hFr : zFr (zCl) g g := zFr.rf
  obtain ⟨sn, tl, rs, x, hX, hH, hHi, hRs, hTr, hSn⟩ := id hTT
  have hR : isR cy K ad g 215 rs.1 rs.2.1 rs.2.2.1 rs.2.2.2.1 rs.2.2.2.2 := hRs
  refine lv_iload_n hx hb dX4_goBack_0 rfl (lv_at hl 1 rfl) ?_
  refine z_Sv_eq (As := [.int (nI jz)]) (rest := []) C0 hP hS hl.1 (m_X4_checkSlot l _ hj) lk_X4_131 rfl rfl (Nat.le_of_ble_eq_true rfl) ⟨Nat.le_of_ble_eq_true rfl, Nat.le_of_ble_eq_true rfl⟩ rfl rfl ⟨Nat.zero_le _, Nat.zero_le _⟩ dX4_goBack_1 (fun H locs hP hS => ?_)
  refine lv_aload_n hx hb dX4_goBack_4 rfl (lv_at hl 0 rfl) ?_
  refine z_get C0 hP hX.n0 hX.o fd_X4_23 rfl dX4_goBack_5 ?_
  refine lv_iload_n hx hb dX4_goBack_8 rfl (lv_at hl 1 rfl) ?_
  refine z_aald C0 hP hX.n213 hX.a_sn rfl (zIx_nI (by omega) (by decide)) (congrArg va_rf (((hSn.1 jz hj).1).trans (congrArg (Option.map ad) hns))) dX4_goBack_9 ?_
  have hS2 := ((hSn.1 jz hj).2 na hns).2
  have hna := ((hSn.1 jz hj).2 na hns).1
  refine lv_astore_n (lv' := [(2, .ref (ad na)), (0, .ref (ad 0)), (1, .int (nI jz))]) hx hb dX4_goBack_10 rfl hl (by decide) rfl (fun ls hl => ?_)
  refine lv_aload_n hx hb dX4_goBack_11 rfl (lv_at hl 0 rfl) ?_
  refine lv_ifnonnull (tgt := 25) hx hb dX4_goBack_12 (by decide) ?_
  refine lv_aload_n hx hb dX4_goBack_25 rfl (lv_at hl 1 rfl) ?_
  refine z_get C0 hP hX.n0 hX.o fd_X4_19 rfl dX4_goBack_26 ?_
  refine lv_aload_n hx hb dX4_goBack_29 rfl (lv_at hl 1 rfl) ?_
  refine z_get C0 hP hX.n0 hX.o fd_X4_10 rfl dX4_goBack_30 ?_
  obtain ⟨fs_33, hfs_33⟩ := hHi.rc
  refine z_Vv_mo (As := [.ref (ad 1)]) (rest := []) C0 hP hS hl.1 (m_X2_save l _ hHi hH (by omega) hnx hsz) lk_X4_61 hHi.n0 hfs_33 rfl rfl (Nat.le_of_ble_eq_true rfl) ⟨Nat.le_of_ble_eq_true rfl, Nat.le_of_ble_eq_true rfl⟩ rfl rfl ⟨Nat.zero_le _, Nat.zero_le _⟩ dX4_goBack_33 (fun g_1 H locs hP hS hp => ?_)
  obtain ⟨hHi, hF1⟩ := hp
  have hX := hX.kept hF1 (by first | (dsimp only [zOne, zRg, zCl]; omega) | (dsimp only; omega) | omega)
  have hH := hH.kept hF1 (by intro z9 h8 h9; first | (dsimp only [zOne, zRg, zCl]; omega) | (dsimp only; omega) | omega)
  have hR := hR.kept hF1 (by first | (dsimp only [zOne, zRg, zCl]; omega) | (dsimp only; omega) | omega)
  have hTr := hTr.kept hF1 (by intro z9 h8 h9; first | (dsimp only [zOne, zRg, zCl]; omega) | (dsimp only; omega) | omega)
  have hSn := hSn.kept hF1 (by intro z9 h8; first | (dsimp only [zOne, zRg, zCl]; omega) | (dsimp only; omega) | omega)
  have hS2 := hS2.kept hF1 (by intro z9 h8 h9; first | (dsimp only [zOne, zRg, zCl]; omega) | (dsimp only; omega) | omega)
  have hFr := hFr.tr (hF1.mono (by intro x9 hx9; first | (dsimp only [zOne, zRg, zCl] at hx9 ⊢; omega) | (dsimp only at hx9 ⊢; omega) | omega))
  refine lv_aload_n hx hb dX4_goBack_36 rfl (lv_at hl 1 rfl) ?_
  refine z_get C0 hP hX.n0 hX.o fd_X4_10 rfl dX4_goBack_37 ?_
  refine lv_aload_n hx hb dX4_goBack_40 rfl (lv_at hl 0 rfl) ?_
  obtain ⟨fs_41, hfs_41⟩ := hH.rc
  refine z_Vv_mo (As := [.ref (ad na)]) (rest := []) C0 hP hS hl.1 (m_X1_copyFrom l _ hH hS2 (by omega)) lk_X4_134 hH.n0 hfs_41 rfl rfl (Nat.le_of_ble_eq_true rfl) ⟨Nat.le_of_ble_eq_true rfl, Nat.le_of_ble_eq_true rfl⟩ rfl rfl ⟨Nat.zero_le _, Nat.zero_le _⟩ dX4_goBack_41 (fun g_2 H locs hP hS hp => ?_)
  obtain ⟨hH, hF1⟩ := hp
  have hX := hX.kept hF1 (by first | (dsimp only [zOne, zRg, zCl]; omega) | (dsimp only; omega) | omega)
  have hHi := hHi.kept hF1 (by intro z9 h8 h9; first | (dsimp only [zOne, zRg, zCl]; omega) | (dsimp only; omega) | omega)
  have hR := hR.kept hF1 (by first | (dsimp only [zOne, zRg, zCl]; omega) | (dsimp only; omega) | omega)
  have hTr := hTr.kept hF1 (by intro z9 h8 h9; first | (dsimp only [zOne, zRg, zCl]; omega) | (dsimp only; omega) | omega)
  have hSn := hSn.kept hF1 (by intro z9 h8; first | (dsimp only [zOne, zRg, zCl]; omega) | (dsimp only; omega) | omega)
  have hS2 := hS2.kept hF1 (by intro z9 h8 h9; first | (dsimp only [zOne, zRg, zCl]; omega) | (dsimp only; omega) | omega)
  have hFr := hFr.tr (hF1.mono (by intro x9 hx9; first | (dsimp only [zOne, zRg, zCl] at hx9 ⊢; omega) | (dsimp only at hx9 ⊢; omega) | omega))
  refine lv_aload_n hx hb dX4_goBack_44 rfl (lv_at hl 1 rfl) ?_
  refine z_get C0 hP hX.n0 hX.o fd_X4_10 rfl dX4_goBack_45 ?_
  obtain ⟨fs_48, hfs_48⟩ := hH.rc
  refine z_Vi_eq (As := []) (rest := []) C0 hP hS hl.1 (m_X1_ties l _ hH) lk_X4_137 hH.n0 hfs_48 rfl rfl (Nat.le_of_ble_eq_true rfl) ⟨Nat.le_of_ble_eq_true rfl, Nat.le_of_ble_eq_true rfl⟩ rfl rfl ⟨Nat.zero_le _, Nat.zero_le _⟩ dX4_goBack_48 (fun H locs hP hS => ?_)
  exact z_iret C0 hP hS hr (⟨rfl, ⟨_, _, rs, _, hX, hH, hHi, hR, hTr, hSn⟩, hFr⟩) dX4_goBack_51
