theorem tie_2 (a b c : Int32) : a + (b + c + c) = a + b + 2 * c := by grind
theorem tie_3 {kn lo : Nat → Int32} {num : Int32} (h : mL kn lo num 5 = 0) (x : Int32) : x + sumN (mK kn lo num) 6 = x + sumN (dgN num) 6 + sumN (mL kn lo num) 6 := by
  rw [tie_kn h]
  exact (Int32.add_assoc _ _ _).symm
theorem tie_4 {kn lo : Nat → Int32} {num : Int32} (h : mL kn lo num 5 = 0) (x : Int32) : x + (sumN (mK kn lo num) 6 + sumN (mL kn lo num) 6) = x + sumN (dgN num) 6 + 2 * sumN (mL kn lo num) 6 := by
  rw [tie_kn h]
  exact tie_2 _ _ _
theorem sub_0 (a : Int32) : a - 0 = a := by grind
set_option maxHeartbeats 4000000 in
set_option maxRecDepth 100000 in
theorem m_L_tiesA (l : Launch) {D : va_G} {cy : Nat → ClassId} {K : Nat} {ad : Nat → Nat} {g : Nat → va_E} (sz : Nat) {st : Nat → Int32} {sv : Nat → Nat → Int32} {nx sz2 : Nat} {ns : Nat → Option Nat} {ss : Nat → Nat → Int32} {bu : Nat → Int32} {ln : Nat} {tz : Nat} {iz : Nat} {num : Int32} (hTT : isT cy K ad g st sv nx sz2 ns ss bu ln) (hi : iz < 7) (hn1 : ¬ num < 1) (hn2 : num ≤ 999999) (hI : pI tz st) (hnx : nx < 6) (hsz : sz2 ≤ 6) (h0 : cRop st iz num = 0) : Met l yL_ties (zs yL_ties cL_ties 16 (some .boolean)) ({ frames := 6, cells := 0, slots := 0, locals := 147 } : Room) (va_Pc [.ref (ad 0), .int (nI iz), .int num] (zIn D cy K ad g sz)) (va_Qi (fun r g1 => r = 1 ∧ isT cy K ad g1 (tieS st iz num) (va_up sv nx st) ((nx + 1) % 6) (min (sz2 + 1) 6) ns ss bu ln ∧ zFr zCl g g1) (zOut D cy K ad sz) (zA K ad sz)) 0 0 (zA K ad sz) := by
  refine z_met (by decide) (Nat.le_of_ble_eq_true rfl) (fun p e s m below meth c ls hsz hl C0 hr hnm hP hS => ?_)
  subst hsz
  have hl : lv_has ls 16 [(0, .ref (ad 0)), (1, .int (nI iz)), (2, .int num)] := hl
  have hx := C0.1; have hb := C0.2.1; have hown := C0.2.2.2.1; have hts := C0.2.2.2.2.1
  have hFr : zFr (zCl) g g := zFr.rf
  have hnb := num_i hn1 hn2
  have hmz := rop_lt h0
  have hs9 := rop_1 (num := num) hmz (by rw [h0]; decide)
  have h5 := tieF_told hI.1 hi h0 hnb.1 hnb.2
  have eS : tieS st iz num = tieF st iz num := if_pos h0
  refine lv_aload_n hx hb dL_ties_0 rfl (lv_at hl 0 rfl) ?_
  refine lv_iload_n hx hb dL_ties_1 rfl (lv_at hl 1 rfl) ?_
  refine lv_iconst (v := (nI 0)) hx hb dL_ties_2 (by decide) ?_
  obtain ⟨fs_3, hfs_3⟩ := hTT.rc
  refine z_Vi_eq (As := [.int (nI iz), .int (nI 0)]) (rest := []) C0 hP hS hl.1 (m_X4_cordOf l _ hTT hi (by decide) hI.pc) lk_L_15 hTT.n0 hfs_3 rfl rfl (Nat.le_of_ble_eq_true rfl) ⟨Nat.le_of_ble_eq_true rfl, Nat.le_of_ble_eq_true rfl⟩ rfl rfl ⟨Nat.zero_le _, Nat.zero_le _⟩ dL_ties_3 (fun H locs hP hS => ?_)
  refine z_topi (y := cTold st iz) rfl ?_
  refine lv_istore_n (lv' := [(3, .int (cTold st iz)), (0, .ref (ad 0)), (1, .int (nI iz)), (2, .int num)]) hx hb dL_ties_6 rfl hl (by decide) rfl (fun ls hl => ?_)
  refine lv_aload_n hx hb dL_ties_7 rfl (lv_at hl 1 rfl) ?_
  refine lv_iload_n hx hb dL_ties_8 rfl (lv_at hl 2 rfl) ?_
  refine lv_iconst (v := (nI 2)) hx hb dL_ties_9 (by decide) ?_
  obtain ⟨fs_10, hfs_10⟩ := hTT.rc
  refine z_Vi_eq (As := [.int (nI iz), .int (nI 2)]) (rest := []) C0 hP hS hl.1 (m_X4_cordOf l _ hTT hi (by decide) hI.pc) lk_L_15 hTT.n0 hfs_10 rfl rfl (Nat.le_of_ble_eq_true rfl) ⟨Nat.le_of_ble_eq_true rfl, Nat.le_of_ble_eq_true rfl⟩ rfl rfl ⟨Nat.zero_le _, Nat.zero_le _⟩ dL_ties_10 (fun H locs hP hS => ?_)
  refine z_topi (y := nI (cm st iz)) (hI.1.pcE hi) ?_
  refine lv_istore (lv' := [(4, .int (nI (cm st iz))), (3, .int (cTold st iz)), (0, .ref (ad 0)), (1, .int (nI iz)), (2, .int num)]) hx hb dL_ties_13 hl (by decide) rfl (fun ls hl => ?_)
  refine lv_aload_n hx hb dL_ties_15 rfl (lv_at hl 2 rfl) ?_
  refine lv_iload_n hx hb dL_ties_16 rfl (lv_at hl 3 rfl) ?_
  refine lv_iconst (v := (nI 4)) hx hb dL_ties_17 (by decide) ?_
  obtain ⟨fs_18, hfs_18⟩ := hTT.rc
  refine z_Vi_eq (As := [.int (nI iz), .int (nI 4)]) (rest := []) C0 hP hS hl.1 (m_X4_cordOf l _ hTT hi (by decide) hI.pc) lk_L_15 hTT.n0 hfs_18 rfl rfl (Nat.le_of_ble_eq_true rfl) ⟨Nat.le_of_ble_eq_true rfl, Nat.le_of_ble_eq_true rfl⟩ rfl rfl ⟨Nat.zero_le _, Nat.zero_le _⟩ dL_ties_18 (fun H locs hP hS => ?_)
  refine z_topi (y := cTies st iz) rfl ?_
  refine lv_istore (lv' := [(5, .int (cTies st iz)), (4, .int (nI (cm st iz))), (3, .int (cTold st iz)), (0, .ref (ad 0)), (1, .int (nI iz)), (2, .int num)]) hx hb dL_ties_21 hl (by decide) rfl (fun ls hl => ?_)
  refine lv_aload_n hx hb dL_ties_23 rfl (lv_at hl 3 rfl) ?_
  refine lv_bipush (v := (nI 6)) hx hb dL_ties_24 (by decide) ?_
  obtain ⟨fs_26, hfs_26⟩ := hTT.rc
  refine z_Vi_eq (As := [.int (nI 6)]) (rest := []) C0 hP hS hl.1 (m_X4_count l _ hTT (by decide) hI.pc) lk_L_20 hTT.n0 hfs_26 rfl rfl (Nat.le_of_ble_eq_true rfl) ⟨Nat.le_of_ble_eq_true rfl, Nat.le_of_ble_eq_true rfl⟩ rfl rfl ⟨Nat.zero_le _, Nat.zero_le _⟩ dL_ties_26 (fun H locs hP hS => ?_)
  refine z_topi (y := st 4) rfl ?_
  refine lv_istore (lv' := [(6, .int (st 4)), (5, .int (cTies st iz)), (4, .int (nI (cm st iz))), (3, .int (cTold st iz)), (0, .ref (ad 0)), (1, .int (nI iz)), (2, .int num)]) hx hb dL_ties_29 hl (by decide) rfl (fun ls hl => ?_)
  refine lv_aload_n hx hb dL_ties_31 rfl (lv_at hl 4 rfl) ?_
  refine lv_iconst (v := (nI 2)) hx hb dL_ties_32 (by decide) ?_
  obtain ⟨fs_33, hfs_33⟩ := hTT.rc
  refine z_Vi_eq (As := [.int (nI 2)]) (rest := []) C0 hP hS hl.1 (m_X4_count l _ hTT (by decide) hI.pc) lk_L_20 hTT.n0 hfs_33 rfl rfl (Nat.le_of_ble_eq_true rfl) ⟨Nat.le_of_ble_eq_true rfl, Nat.le_of_ble_eq_true rfl⟩ rfl rfl ⟨Nat.zero_le _, Nat.zero_le _⟩ dL_ties_33 (fun H locs hP hS => ?_)
  refine z_topi (y := st 0) rfl ?_
  refine lv_istore (lv' := [(7, .int (st 0)), (6, .int (st 4)), (5, .int (cTies st iz)), (4, .int (nI (cm st iz))), (3, .int (cTold st iz)), (0, .ref (ad 0)), (1, .int (nI iz)), (2, .int num)]) hx hb dL_ties_36 hl (by decide) rfl (fun ls hl => ?_)
  refine lv_aload_n hx hb dL_ties_38 rfl (lv_at hl 5 rfl) ?_
  refine lv_iconst (v := (nI 3)) hx hb dL_ties_39 (by decide) ?_
  obtain ⟨fs_40, hfs_40⟩ := hTT.rc
  refine z_Vi_eq (As := [.int (nI 3)]) (rest := []) C0 hP hS hl.1 (m_X4_count l _ hTT (by decide) hI.pc) lk_L_20 hTT.n0 hfs_40 rfl rfl (Nat.le_of_ble_eq_true rfl) ⟨Nat.le_of_ble_eq_true rfl, Nat.le_of_ble_eq_true rfl⟩ rfl rfl ⟨Nat.zero_le _, Nat.zero_le _⟩ dL_ties_40 (fun H locs hP hS => ?_)
  refine z_topi (y := st 1) rfl ?_
  refine lv_istore (lv' := [(8, .int (st 1)), (7, .int (st 0)), (6, .int (st 4)), (5, .int (cTies st iz)), (4, .int (nI (cm st iz))), (3, .int (cTold st iz)), (0, .ref (ad 0)), (1, .int (nI iz)), (2, .int num)]) hx hb dL_ties_43 hl (by decide) rfl (fun ls hl => ?_)
  refine lv_aload_n hx hb dL_ties_45 rfl (lv_at hl 6 rfl) ?_
  refine lv_iload_n hx hb dL_ties_46 rfl (lv_at hl 7 rfl) ?_
  refine lv_iload_n hx hb dL_ties_47 rfl (lv_at hl 8 rfl) ?_
  obtain ⟨fs_48, hfs_48⟩ := hTT.rc
  refine z_Vi_eq (As := [.int (nI iz), .int num]) (rest := []) C0 hP hS hl.1 (m_X4_whyNot l _ hTT hi hn1 hn2 hI.pc) lk_L_31 hTT.n0 hfs_48 rfl rfl (Nat.le_of_ble_eq_true rfl) ⟨Nat.le_of_ble_eq_true rfl, Nat.le_of_ble_eq_true rfl⟩ rfl rfl ⟨Nat.zero_le _, Nat.zero_le _⟩ dL_ties_48 (fun H locs hP hS => ?_)
  refine lv_istore (lv' := [(9, .int (cRop st iz num)), (8, .int (st 1)), (7, .int (st 0)), (6, .int (st 4)), (5, .int (cTies st iz)), (4, .int (nI (cm st iz))), (3, .int (cTold st iz)), (0, .ref (ad 0)), (1, .int (nI iz)), (2, .int num)]) hx hb dL_ties_51 hl (by decide) rfl (fun ls hl => ?_)
  refine lv_aload_n hx hb dL_ties_53 rfl (lv_at hl 7 rfl) ?_
  refine lv_iload_n hx hb dL_ties_54 rfl (lv_at hl 8 rfl) ?_
  refine lv_iload_n hx hb dL_ties_55 rfl (lv_at hl 9 rfl) ?_
  obtain ⟨fs_56, hfs_56⟩ := hTT.rc
  refine z_Vi_mo (As := [.int (nI iz), .int num]) (rest := []) C0 hP hS hl.1 (m_X4_howOften l _ hTT hi hn1 hn2 hI.pc) lk_L_56 hTT.n0 hfs_56 rfl rfl (Nat.le_of_ble_eq_true rfl) ⟨Nat.le_of_ble_eq_true rfl, Nat.le_of_ble_eq_true rfl⟩ rfl rfl ⟨Nat.zero_le _, Nat.zero_le _⟩ dL_ties_56 (fun r_56 g_1 H locs hP hS hp => ?_)
  obtain ⟨hr_56, hTT, hF1⟩ := hp
  subst hr_56
  have hFr := hFr.tr (hF1.mono (by intro x9 hx9; first | (dsimp only [zOne, zRg, zCl] at hx9 ⊢; omega) | (dsimp only at hx9 ⊢; omega) | omega))
  refine z_topi (y := nI (hoN num (tieF st iz num 5) 16 (fK (tieF st iz num) iz) (fL (tieF st iz num) iz) (cm (tieF st iz num) iz) + 1)) (congrArg nI (ho_1 h0)) ?_
  refine lv_istore (lv' := [(10, .int (nI (hoN num (tieF st iz num 5) 16 (fK (tieF st iz num) iz) (fL (tieF st iz num) iz) (cm (tieF st iz num) iz) + 1))), (9, .int (cRop st iz num)), (8, .int (st 1)), (7, .int (st 0)), (6, .int (st 4)), (5, .int (cTies st iz)), (4, .int (nI (cm st iz))), (3, .int (cTold st iz)), (0, .ref (ad 0)), (1, .int (nI iz)), (2, .int num)]) hx hb dL_ties_59 hl (by decide) rfl (fun ls hl => ?_)
  refine lv_iconst (v := 0) hx hb dL_ties_61 (by decide) ?_
  refine z_topi (y := sumN (dgN num) 0) rfl ?_
  refine lv_istore (lv' := [(11, .int (sumN (dgN num) 0)), (10, .int (nI (hoN num (tieF st iz num 5) 16 (fK (tieF st iz num) iz) (fL (tieF st iz num) iz) (cm (tieF st iz num) iz) + 1))), (9, .int (cRop st iz num)), (8, .int (st 1)), (7, .int (st 0)), (6, .int (st 4)), (5, .int (cTies st iz)), (4, .int (nI (cm st iz))), (3, .int (cTold st iz)), (0, .ref (ad 0)), (1, .int (nI iz)), (2, .int num)]) hx hb dL_ties_62 hl (by decide) rfl (fun ls hl => ?_)
  refine lv_iload_n hx hb dL_ties_64 rfl (lv_at hl 11 rfl) ?_
  refine z_topi (y := lrest num 0) rfl ?_
  refine lv_istore (lv' := [(12, .int (lrest num 0)), (11, .int (sumN (dgN num) 0)), (10, .int (nI (hoN num (tieF st iz num 5) 16 (fK (tieF st iz num) iz) (fL (tieF st iz num) iz) (cm (tieF st iz num) iz) + 1))), (9, .int (cRop st iz num)), (8, .int (st 1)), (7, .int (st 0)), (6, .int (st 4)), (5, .int (cTies st iz)), (4, .int (nI (cm st iz))), (3, .int (cTold st iz)), (0, .ref (ad 0)), (1, .int (nI iz)), (2, .int num)]) hx hb dL_ties_65 hl (by decide) rfl (fun ls hl => ?_)
  have lp_67 : ∀ (N : Nat) (pz : Nat) (hpz : pz ≤ 6), 6 - pz < N → ∀ (H : Heap) (locs : List Loc) (ls : Array Slot), zP D K ad g_1 (zA K ad s.heap.size) H → va_S (zA K ad s.heap.size) s.heap H locs → lv_has ls 16 [(0, .ref (ad 0)), (1, .int (nI iz)), (2, .int num), (3, .int (cTold st iz)), (4, .int (nI (cm st iz))), (5, .int (cTies st iz)), (6, .int (st 4)), (7, .int (st 0)), (8, .int (st 1)), (9, .int (cRop st iz num)), (10, .int (nI (hoN num (tieF st iz num 5) 16 (fK (tieF st iz num) iz) (fL (tieF st iz num) iz) (cm (tieF st iz num) iz) + 1))), (11, .int (sumN (dgN num) pz)), (12, .int (lrest num pz))] → W p l e ({ frames := 6, cells := 0, slots := 0, locals := 147 } : Room) s m [.ref (ad 0), .int (nI iz), .int num].toArray below meth c H locs 0 0 (MQ below (va_Qi (fun r g1 => r = 1 ∧ isT cy K ad g1 (tieS st iz num) (va_up sv nx st) ((nx + 1) % 6) (min (sz2 + 1) 6) ns ss bu ln ∧ zFr zCl g g1) (zOut D cy K ad s.heap.size) (zA K ad s.heap.size)) [.ref (ad 0), .int (nI iz), .int num].toArray s 0 0 (zA K ad s.heap.size)) (F0 m 67 ls []) := by
    intro N
    induction N with
    | zero => intro pz hpz hN; exact absurd hN (Nat.not_lt_zero _)
    | succ N ih_67 =>
      intro pz hpz hN H locs ls hP hS  hl
      refine lv_iload hx hb dL_ties_67 (lv_at hl 12 rfl) ?_
      refine lv_if_le (tgt := 92) hx hb dL_ties_69 (by decide) (fun c_69 => ?_) (fun c_69 => ?_)
      · have hdg := dg_6 (by omega) hpz c_69
        rw [hdg] at hl
        refine lv_iload hx hb dL_ties_92 (lv_at hl 9 rfl) ?_
        refine lv_iconst (v := 3) hx hb dL_ties_94 (by decide) ?_
        refine lv_icmp_ne (tgt := 113) hx hb dL_ties_95 (by decide) (fun c_95 => ?_) (fun c_95 => absurd (h0.symm.trans c_95) (by decide))
        refine lv_iload hx hb dL_ties_113 (lv_at hl 9 rfl) ?_
        refine lv_iconst (v := 1) hx hb dL_ties_115 (by decide) ?_
        refine lv_icmp_ne (tgt := 135) hx hb dL_ties_116 (by decide) (fun c_116 => ?_) (fun c_116 => absurd (h0.symm.trans c_116) (by decide))
        refine lv_iload hx hb dL_ties_135 (lv_at hl 9 rfl) ?_
        refine lv_iconst (v := 2) hx hb dL_ties_137 (by decide) ?_
        refine lv_icmp_ne (tgt := 164) hx hb dL_ties_138 (by decide) (fun c_138 => ?_) (fun c_138 => absurd (h0.symm.trans c_138) (by decide))
        refine lv_iload hx hb dL_ties_164 (lv_at hl 4 rfl) ?_
        refine lv_bipush (v := 16) hx hb dL_ties_166 (by decide) ?_
        refine lv_icmp_ge (tgt := 183) hx hb dL_ties_168 (by decide) (fun c_168 => absurd c_168 (nI_ge (b := 16) hmz (by decide))) (fun c_168 => ?_)
        refine lv_iload_n hx hb dL_ties_171 rfl (lv_at hl 3 rfl) ?_
        refine lv_iload_n hx hb dL_ties_172 rfl (lv_at hl 2 rfl) ?_
        refine lv_iadd hx hb dL_ties_173 ?_
        refine lv_ldc hx hb hown (hts _ q435) dL_ties_174 ?_
        refine lv_icmp_gt (tgt := 183) hx hb dL_ties_176 (by decide) (fun c_176 => absurd c_176 (Int32.not_lt.mpr hs9)) (fun c_176 => ?_)
        refine lv_iconst (v := 1) hx hb dL_ties_179 (by decide) ?_
        refine lv_goto (tgt := 184) hx hb dL_ties_180 (by decide) ?_
        refine lv_istore (lv' := [(12, .int 1), (0, .ref (ad 0)), (1, .int (nI iz)), (2, .int num), (3, .int (cTold st iz)), (4, .int (nI (cm st iz))), (5, .int (cTies st iz)), (6, .int (st 4)), (7, .int (st 0)), (8, .int (st 1)), (9, .int (cRop st iz num)), (10, .int (nI (hoN num (tieF st iz num 5) 16 (fK (tieF st iz num) iz) (fL (tieF st iz num) iz) (cm (tieF st iz num) iz) + 1))), (11, .int (sumN (dgN num) 6))]) hx hb dL_ties_184 hl (by decide) rfl (fun ls hl => ?_)
        refine lv_aload_n hx hb dL_ties_186 rfl (lv_at hl 1 rfl) ?_
        refine lv_iload_n hx hb dL_ties_187 rfl (lv_at hl 2 rfl) ?_
        refine lv_iload_n hx hb dL_ties_188 rfl (lv_at hl 3 rfl) ?_
        obtain ⟨fs_189, hfs_189⟩ := hTT.rc
        refine z_Vi_mo (As := [.int (nI iz), .int num]) (rest := []) C0 hP hS hl.1 (m_X4_tie l _ hTT hi hn1 hn2 hI.pc hnx hsz) lk_L_60 hTT.n0 hfs_189 rfl rfl (Nat.le_of_ble_eq_true rfl) ⟨Nat.le_of_ble_eq_true rfl, Nat.le_of_ble_eq_true rfl⟩ rfl rfl ⟨Nat.zero_le _, Nat.zero_le _⟩ dL_ties_189 (fun r_189 g_3 H locs hP hS hp => ?_)
        obtain ⟨hr_189, hTT, hF1⟩ := hp
        subst hr_189
        have hFr := hFr.tr (hF1.mono (by intro x9 hx9; first | (dsimp only [zOne, zRg, zCl] at hx9 ⊢; omega) | (dsimp only at hx9 ⊢; omega) | omega))
        rw [eS] at hTT
        have hI2 : pI tz (tieF st iz num) := hI.tf hi h0 hnb.1 hnb.2
        refine z_topi (y := 10 + sumN (mL (fK st iz) (fL st iz) num) 6) (if_pos h0) ?_
        refine lv_istore (lv' := [(13, .int (10 + sumN (mL (fK st iz) (fL st iz) num) 6)), (12, .int 1), (0, .ref (ad 0)), (1, .int (nI iz)), (2, .int num), (3, .int (cTold st iz)), (4, .int (nI (cm st iz))), (5, .int (cTies st iz)), (6, .int (st 4)), (7, .int (st 0)), (8, .int (st 1)), (9, .int (cRop st iz num)), (10, .int (nI (hoN num (tieF st iz num 5) 16 (fK (tieF st iz num) iz) (fL (tieF st iz num) iz) (cm (tieF st iz num) iz) + 1))), (11, .int (sumN (dgN num) 6))]) hx hb dL_ties_192 hl (by decide) rfl (fun ls hl => ?_)
        refine lv_iload hx hb dL_ties_194 (lv_at hl 11 rfl) ?_
        refine lv_if_le (tgt := 256) hx hb dL_ties_196 (by decide) (fun c_196 => ?_) (fun c_196 => absurd (by rw [h0]; decide) c_196)
        refine lv_iload hx hb dL_ties_256 (lv_at hl 0 rfl) ?_
        refine lv_bipush (v := 10) hx hb dL_ties_258 (by decide) ?_
        refine lv_isub hx hb dL_ties_260 ?_
        refine z_topi (y := sumN (mL (fK st iz) (fL st iz) num) 6) (i32_addsub _ _) ?_
        refine lv_istore (lv' := [(14, .int (sumN (mL (fK st iz) (fL st iz) num) 6)), (13, .int (10 + sumN (mL (fK st iz) (fL st iz) num) 6)), (12, .int 1), (0, .ref (ad 0)), (1, .int (nI iz)), (2, .int num), (3, .int (cTold st iz)), (4, .int (nI (cm st iz))), (5, .int (cTies st iz)), (6, .int (st 4)), (7, .int (st 0)), (8, .int (st 1)), (9, .int (cRop st iz num)), (10, .int (nI (hoN num (tieF st iz num 5) 16 (fK (tieF st iz num) iz) (fL (tieF st iz num) iz) (cm (tieF st iz num) iz) + 1))), (11, .int (sumN (dgN num) 6))]) hx hb dL_ties_261 hl (by decide) rfl (fun ls hl => ?_)
        refine lv_iload hx hb dL_ties_263 (lv_at hl 2 rfl) ?_
        refine lv_if_eq (tgt := 355) hx hb dL_ties_265 (by decide) (fun c_265 => absurd c_265 (by decide)) (fun c_265 => ?_)
        refine lv_iload hx hb dL_ties_268 (lv_at hl 0 rfl) ?_
        refine lv_if_lt (tgt := 355) hx hb dL_ties_270 (by decide) (fun c_270 => absurd c_270 (tie_more hI.1 hi (by omega) hnb.2)) (fun c_270 => ?_)
        refine lv_aload_n hx hb dL_ties_273 rfl (lv_at hl 3 rfl) ?_
        refine lv_iload_n hx hb dL_ties_274 rfl (lv_at hl 4 rfl) ?_
        refine lv_iconst (v := (nI 0)) hx hb dL_ties_275 (by decide) ?_
        obtain ⟨fs_276, hfs_276⟩ := hTT.rc
        refine z_Vi_eq (As := [.int (nI iz), .int (nI 0)]) (rest := []) C0 hP hS hl.1 (m_X4_cordOf l _ hTT hi (by decide) hI2.pc) lk_L_15 hTT.n0 hfs_276 rfl rfl (Nat.le_of_ble_eq_true rfl) ⟨Nat.le_of_ble_eq_true rfl, Nat.le_of_ble_eq_true rfl⟩ rfl rfl ⟨Nat.zero_le _, Nat.zero_le _⟩ dL_ties_276 (fun H locs hP hS => ?_)
        refine z_topi (y := cTold st iz + num) h5.2 ?_
        refine lv_iload_n hx hb dL_ties_279 rfl (lv_at hl 6 rfl) ?_
        refine lv_iload_n hx hb dL_ties_280 rfl (lv_at hl 5 rfl) ?_
        refine lv_iadd hx hb dL_ties_281 ?_
        refine lv_icmp_ne (tgt := 355) hx hb dL_ties_282 (by decide) (fun c_282 => absurd (rfl) c_282) (fun c_282 => ?_)
        refine lv_aload_n hx hb dL_ties_285 rfl (lv_at hl 3 rfl) ?_
        refine lv_iload_n hx hb dL_ties_286 rfl (lv_at hl 4 rfl) ?_
        refine lv_iconst (v := (nI 2)) hx hb dL_ties_287 (by decide) ?_
        obtain ⟨fs_288, hfs_288⟩ := hTT.rc
        refine z_Vi_eq (As := [.int (nI iz), .int (nI 2)]) (rest := []) C0 hP hS hl.1 (m_X4_cordOf l _ hTT hi (by decide) hI2.pc) lk_L_15 hTT.n0 hfs_288 rfl rfl (Nat.le_of_ble_eq_true rfl) ⟨Nat.le_of_ble_eq_true rfl, Nat.le_of_ble_eq_true rfl⟩ rfl rfl ⟨Nat.zero_le _, Nat.zero_le _⟩ dL_ties_288 (fun H locs hP hS => ?_)
        refine z_topi (y := nI (cm st iz + 1)) tieF_n ?_
        refine lv_iload hx hb dL_ties_291 (lv_at hl 7 rfl) ?_
        refine lv_iconst (v := 1) hx hb dL_ties_293 (by decide) ?_
        refine lv_iadd hx hb dL_ties_294 ?_
        refine lv_icmp_ne (tgt := 355) hx hb dL_ties_295 (by decide) (fun c_295 => absurd ((nI_1 _).symm) c_295) (fun c_295 => ?_)
        refine lv_aload_n hx hb dL_ties_298 rfl (lv_at hl 3 rfl) ?_
        refine lv_iload_n hx hb dL_ties_299 rfl (lv_at hl 4 rfl) ?_
        refine lv_iload hx hb dL_ties_300 (lv_at hl 7 rfl) ?_
        obtain ⟨fs_302, hfs_302⟩ := hTT.rc
        refine z_Vi_eq (As := [.int (nI iz), .int (nI (cm st iz))]) (rest := []) C0 hP hS hl.1 (m_X4_part l _ hTT hi (nI_pos' (by omega)) hI2.pc) lk_L_63 hTT.n0 hfs_302 rfl rfl (Nat.le_of_ble_eq_true rfl) ⟨Nat.le_of_ble_eq_true rfl, Nat.le_of_ble_eq_true rfl⟩ rfl rfl ⟨Nat.zero_le _, Nat.zero_le _⟩ dL_ties_302 (fun H locs hP hS => ?_)
        refine z_topi (y := num) (tieF_part hmz) ?_
        refine lv_iload_n hx hb dL_ties_305 rfl (lv_at hl 5 rfl) ?_
        refine lv_icmp_ne (tgt := 355) hx hb dL_ties_306 (by decide) (fun c_306 => absurd (rfl) c_306) (fun c_306 => ?_)
        refine lv_aload_n hx hb dL_ties_309 rfl (lv_at hl 3 rfl) ?_
        refine lv_iload_n hx hb dL_ties_310 rfl (lv_at hl 4 rfl) ?_
        refine lv_iload hx hb dL_ties_311 (lv_at hl 7 rfl) ?_
        refine lv_iconst (v := 1) hx hb dL_ties_313 (by decide) ?_
        refine lv_iadd hx hb dL_ties_314 ?_
        refine z_topi (y := nI (cm st iz + 1)) (nI_1 _) ?_
        obtain ⟨fs_315, hfs_315⟩ := hTT.rc
        refine z_Vi_eq (As := [.int (nI iz), .int (nI (cm st iz + 1))]) (rest := []) C0 hP hS hl.1 (m_X4_part l _ hTT hi (nI_pos' (by omega)) hI2.pc) lk_L_63 hTT.n0 hfs_315 rfl rfl (Nat.le_of_ble_eq_true rfl) ⟨Nat.le_of_ble_eq_true rfl, Nat.le_of_ble_eq_true rfl⟩ rfl rfl ⟨Nat.zero_le _, Nat.zero_le _⟩ dL_ties_315 (fun H locs hP hS => ?_)
        refine z_topi (y := (-1)) (tieF_part2 hmz) ?_
        refine lv_iconst (v := (-1)) hx hb dL_ties_318 (by decide) ?_
        refine lv_icmp_ne (tgt := 355) hx hb dL_ties_319 (by decide) (fun c_319 => absurd (rfl) c_319) (fun c_319 => ?_)
        refine lv_aload_n hx hb dL_ties_322 rfl (lv_at hl 3 rfl) ?_
        refine lv_iconst (v := (nI 2)) hx hb dL_ties_323 (by decide) ?_
        obtain ⟨fs_324, hfs_324⟩ := hTT.rc
        refine z_Vi_eq (As := [.int (nI 2)]) (rest := []) C0 hP hS hl.1 (m_X4_count l _ hTT (by decide) hI2.pc) lk_L_20 hTT.n0 hfs_324 rfl rfl (Nat.le_of_ble_eq_true rfl) ⟨Nat.le_of_ble_eq_true rfl, Nat.le_of_ble_eq_true rfl⟩ rfl rfl ⟨Nat.zero_le _, Nat.zero_le _⟩ dL_ties_324 (fun H locs hP hS => ?_)
        refine z_topi (y := st 0 + sumN (mK (fK st iz) (fL st iz) num) 6) tieF_0 ?_
        refine lv_iload hx hb dL_ties_327 (lv_at hl 10 rfl) ?_
        refine lv_iload hx hb dL_ties_329 (lv_at hl 14 rfl) ?_
        refine lv_iadd hx hb dL_ties_331 ?_
        refine lv_iload hx hb dL_ties_332 (lv_at hl 0 rfl) ?_
        refine lv_iadd hx hb dL_ties_334 ?_
        refine lv_icmp_ne (tgt := 355) hx hb dL_ties_335 (by decide) (fun c_335 => absurd (tie_3 h5.1 _) c_335) (fun c_335 => ?_)
        refine lv_aload_n hx hb dL_ties_338 rfl (lv_at hl 3 rfl) ?_
        refine lv_iconst (v := (nI 3)) hx hb dL_ties_339 (by decide) ?_
        obtain ⟨fs_340, hfs_340⟩ := hTT.rc
        refine z_Vi_eq (As := [.int (nI 3)]) (rest := []) C0 hP hS hl.1 (m_X4_count l _ hTT (by decide) hI2.pc) lk_L_20 hTT.n0 hfs_340 rfl rfl (Nat.le_of_ble_eq_true rfl) ⟨Nat.le_of_ble_eq_true rfl, Nat.le_of_ble_eq_true rfl⟩ rfl rfl ⟨Nat.zero_le _, Nat.zero_le _⟩ dL_ties_340 (fun H locs hP hS => ?_)
        refine z_topi (y := st 1 + sumN (mL (fK st iz) (fL st iz) num) 6) tieF_1 ?_
        refine lv_iload hx hb dL_ties_343 (lv_at hl 11 rfl) ?_
        refine lv_iload hx hb dL_ties_345 (lv_at hl 0 rfl) ?_
        refine lv_iadd hx hb dL_ties_347 ?_
        refine lv_icmp_ne (tgt := 355) hx hb dL_ties_348 (by decide) (fun c_348 => absurd (rfl) c_348) (fun c_348 => ?_)
        refine lv_iconst (v := 1) hx hb dL_ties_351 (by decide) ?_
        refine lv_goto (tgt := 356) hx hb dL_ties_352 (by decide) ?_
        refine lv_istore (lv' := [(15, .int 1), (14, .int (sumN (mL (fK st iz) (fL st iz) num) 6)), (13, .int (10 + sumN (mL (fK st iz) (fL st iz) num) 6)), (12, .int 1), (0, .ref (ad 0)), (1, .int (nI iz)), (2, .int num), (3, .int (cTold st iz)), (4, .int (nI (cm st iz))), (5, .int (cTies st iz)), (6, .int (st 4)), (7, .int (st 0)), (8, .int (st 1)), (9, .int (cRop st iz num)), (10, .int (nI (hoN num (tieF st iz num 5) 16 (fK (tieF st iz num) iz) (fL (tieF st iz num) iz) (cm (tieF st iz num) iz) + 1))), (11, .int (sumN (dgN num) 6))]) hx hb dL_ties_356 hl (by decide) rfl (fun ls hl => ?_)
        refine lv_iload hx hb dL_ties_358 (lv_at hl 0 rfl) ?_
        refine lv_if_eq (tgt := 410) hx hb dL_ties_360 (by decide) (fun c_360 => absurd c_360 (by decide)) (fun c_360 => ?_)
        refine lv_aload_n hx hb dL_ties_363 rfl (lv_at hl 4 rfl) ?_
        refine lv_iload_n hx hb dL_ties_364 rfl (lv_at hl 5 rfl) ?_
        refine lv_iconst (v := (nI 4)) hx hb dL_ties_365 (by decide) ?_
        obtain ⟨fs_366, hfs_366⟩ := hTT.rc
        refine z_Vi_eq (As := [.int (nI iz), .int (nI 4)]) (rest := []) C0 hP hS hl.1 (m_X4_cordOf l _ hTT hi (by decide) hI2.pc) lk_L_15 hTT.n0 hfs_366 rfl rfl (Nat.le_of_ble_eq_true rfl) ⟨Nat.le_of_ble_eq_true rfl, Nat.le_of_ble_eq_true rfl⟩ rfl rfl ⟨Nat.zero_le _, Nat.zero_le _⟩ dL_ties_366 (fun H locs hP hS => ?_)
        refine z_topi (y := cTies st iz + (sumN (mK (fK st iz) (fL st iz) num) 6 + sumN (mL (fK st iz) (fL st iz) num) 6)) (tieF_ties hmz) ?_
        refine lv_iload hx hb dL_ties_369 (lv_at hl 9 rfl) ?_
        refine lv_iload hx hb dL_ties_371 (lv_at hl 15 rfl) ?_
        refine lv_iadd hx hb dL_ties_373 ?_
        refine lv_iconst (v := 2) hx hb dL_ties_374 (by decide) ?_
        refine lv_iload hx hb dL_ties_375 (lv_at hl 1 rfl) ?_
        refine lv_imul hx hb dL_ties_377 ?_
        refine lv_iadd hx hb dL_ties_378 ?_
        refine lv_icmp_ne (tgt := 410) hx hb dL_ties_379 (by decide) (fun c_379 => absurd (tie_4 h5.1 _) c_379) (fun c_379 => ?_)
        refine lv_iload hx hb dL_ties_382 (lv_at hl 14 rfl) ?_
        refine lv_aload_n hx hb dL_ties_384 rfl (lv_at hl 4 rfl) ?_
        refine lv_iload_n hx hb dL_ties_385 rfl (lv_at hl 5 rfl) ?_
        refine lv_iload_n hx hb dL_ties_386 rfl (lv_at hl 6 rfl) ?_
        obtain ⟨fs_387, hfs_387⟩ := hTT.rc
        refine z_Vi_mo (As := [.int (nI iz), .int num]) (rest := [.int (nI (hoN num (tieF st iz num 5) 16 (fK (tieF st iz num) iz) (fL (tieF st iz num) iz) (cm (tieF st iz num) iz) + 1))]) C0 hP hS hl.1 (m_X4_howOften l _ hTT hi hn1 hn2 hI2.pc) lk_L_56 hTT.n0 hfs_387 rfl rfl (Nat.le_of_ble_eq_true rfl) ⟨Nat.le_of_ble_eq_true rfl, Nat.le_of_ble_eq_true rfl⟩ rfl rfl ⟨Nat.zero_le _, Nat.zero_le _⟩ dL_ties_387 (fun r_387 g_4 H locs hP hS hp => ?_)
        obtain ⟨hr_387, hTT, hF1⟩ := hp
        subst hr_387
        have hFr := hFr.tr (hF1.mono (by intro x9 hx9; first | (dsimp only [zOne, zRg, zCl] at hx9 ⊢; omega) | (dsimp only at hx9 ⊢; omega) | omega))
        refine lv_iconst (v := 1) hx hb dL_ties_390 (by decide) ?_
        refine lv_iadd hx hb dL_ties_391 ?_
        refine lv_icmp_ne (tgt := 410) hx hb dL_ties_392 (by decide) (fun c_392 => absurd ((nI_1 _).symm) c_392) (fun c_392 => ?_)
        refine lv_aload_n hx hb dL_ties_395 rfl (lv_at hl 4 rfl) ?_
        refine lv_bipush (v := (nI 6)) hx hb dL_ties_396 (by decide) ?_
        obtain ⟨fs_398, hfs_398⟩ := hTT.rc
        refine z_Vi_eq (As := [.int (nI 6)]) (rest := []) C0 hP hS hl.1 (m_X4_count l _ hTT (by decide) hI2.pc) lk_L_20 hTT.n0 hfs_398 rfl rfl (Nat.le_of_ble_eq_true rfl) ⟨Nat.le_of_ble_eq_true rfl, Nat.le_of_ble_eq_true rfl⟩ rfl rfl ⟨Nat.zero_le _, Nat.zero_le _⟩ dL_ties_398 (fun H locs hP hS => ?_)
        refine z_topi (y := st 4) tieF_4 ?_
        refine lv_iload hx hb dL_ties_401 (lv_at hl 10 rfl) ?_
        refine lv_icmp_ne (tgt := 410) hx hb dL_ties_403 (by decide) (fun c_403 => absurd (rfl) c_403) (fun c_403 => ?_)
        refine lv_iconst (v := 1) hx hb dL_ties_406 (by decide) ?_
        refine lv_goto (tgt := 411) hx hb dL_ties_407 (by decide) ?_
        exact z_zret C0 hP hS hr rfl (⟨rfl, by rw [eS]; exact hTT, hFr⟩) dL_ties_411
      · have hp2 : pz < 6 := dg_lt (by omega) hnb.2 hpz c_69
        refine lv_iload hx hb dL_ties_72 (lv_at hl 11 rfl) ?_
        refine lv_iload hx hb dL_ties_74 (lv_at hl 12 rfl) ?_
        refine lv_bipush (v := 10) hx hb dL_ties_76 (by decide) ?_
        refine lv_irem hx hb dL_ties_78 (by decide) ?_
        refine lv_iadd hx hb dL_ties_79 ?_
        refine z_topi (y := sumN (dgN num) (pz + 1)) rfl ?_
        refine lv_istore (lv' := [(11, .int (sumN (dgN num) (pz + 1))), (0, .ref (ad 0)), (1, .int (nI iz)), (2, .int num), (3, .int (cTold st iz)), (4, .int (nI (cm st iz))), (5, .int (cTies st iz)), (6, .int (st 4)), (7, .int (st 0)), (8, .int (st 1)), (9, .int (cRop st iz num)), (10, .int (nI (hoN num (tieF st iz num 5) 16 (fK (tieF st iz num) iz) (fL (tieF st iz num) iz) (cm (tieF st iz num) iz) + 1))), (12, .int (lrest num pz))]) hx hb dL_ties_80 hl (by decide) rfl (fun ls hl => ?_)
        refine lv_iload hx hb dL_ties_82 (lv_at hl 12 rfl) ?_
        refine lv_bipush (v := 10) hx hb dL_ties_84 (by decide) ?_
        refine lv_idiv hx hb dL_ties_86 (by decide) ?_
        refine z_topi (y := lrest num (pz + 1)) rfl ?_
        refine lv_istore (lv' := [(12, .int (lrest num (pz + 1))), (11, .int (sumN (dgN num) (pz + 1))), (0, .ref (ad 0)), (1, .int (nI iz)), (2, .int num), (3, .int (cTold st iz)), (4, .int (nI (cm st iz))), (5, .int (cTies st iz)), (6, .int (st 4)), (7, .int (st 0)), (8, .int (st 1)), (9, .int (cRop st iz num)), (10, .int (nI (hoN num (tieF st iz num 5) 16 (fK (tieF st iz num) iz) (fL (tieF st iz num) iz) (cm (tieF st iz num) iz) + 1)))]) hx hb dL_ties_87 hl (by decide) rfl (fun ls hl => ?_)
        refine lv_goto (tgt := 67) hx hb dL_ties_89 (by decide) ?_
        exact ih_67 (pz + 1) (by omega) (by omega) _ _ _ hP hS  (lv_sub hl [2, 3, 4, 5, 6, 7, 8, 9, 10, 11, 12, 1, 0] rfl)
  exact lp_67 _ 0 (by decide) (Nat.lt_succ_self _) _ _ _ hP hS  (lv_sub hl [10, 11, 12, 9, 8, 7, 6, 5, 4, 3, 2, 1, 0] rfl)
set_option maxHeartbeats 4000000 in
set_option maxRecDepth 100000 in
theorem m_L_tiesB (l : Launch) {D : va_G} {cy : Nat → ClassId} {K : Nat} {ad : Nat → Nat} {g : Nat → va_E} (sz : Nat) {st : Nat → Int32} {sv : Nat → Nat → Int32} {nx sz2 : Nat} {ns : Nat → Option Nat} {ss : Nat → Nat → Int32} {bu : Nat → Int32} {ln : Nat} {tz : Nat} {iz : Nat} {num : Int32} (hTT : isT cy K ad g st sv nx sz2 ns ss bu ln) (hi : iz < 7) (hn1 : ¬ num < 1) (hn2 : num ≤ 999999) (hI : pI tz st) (hnx : nx < 6) (hsz : sz2 ≤ 6) (hB : ¬ cRop st iz num = 0) : Met l yL_ties (zs yL_ties cL_ties 16 (some .boolean)) ({ frames := 6, cells := 0, slots := 0, locals := 147 } : Room) (va_Pc [.ref (ad 0), .int (nI iz), .int num] (zIn D cy K ad g sz)) (va_Qi (fun r g1 => r = 1 ∧ isT cy K ad g1 (tieS st iz num) (va_up sv nx st) ((nx + 1) % 6) (min (sz2 + 1) 6) ns ss bu ln ∧ zFr zCl g g1) (zOut D cy K ad sz) (zA K ad sz)) 0 0 (zA K ad sz) := by
  refine z_met (by decide) (Nat.le_of_ble_eq_true rfl) (fun p e s m below meth c ls hsz hl C0 hr hnm hP hS => ?_)
  subst hsz
  have hl : lv_has ls 16 [(0, .ref (ad 0)), (1, .int (nI iz)), (2, .int num)] := hl
  have hx := C0.1; have hb := C0.2.1; have hown := C0.2.2.2.1; have hts := C0.2.2.2.2.1
  have hFr : zFr (zCl) g g := zFr.rf
  have hnb := num_i hn1 hn2
  have eS : tieS st iz num = upd st 4 (st 4 + 1) := if_neg hB
  refine lv_aload_n hx hb dL_ties_0 rfl (lv_at hl 0 rfl) ?_
  refine lv_iload_n hx hb dL_ties_1 rfl (lv_at hl 1 rfl) ?_
  refine lv_iconst (v := (nI 0)) hx hb dL_ties_2 (by decide) ?_
  obtain ⟨fs_3, hfs_3⟩ := hTT.rc
  refine z_Vi_eq (As := [.int (nI iz), .int (nI 0)]) (rest := []) C0 hP hS hl.1 (m_X4_cordOf l _ hTT hi (by decide) hI.pc) lk_L_15 hTT.n0 hfs_3 rfl rfl (Nat.le_of_ble_eq_true rfl) ⟨Nat.le_of_ble_eq_true rfl, Nat.le_of_ble_eq_true rfl⟩ rfl rfl ⟨Nat.zero_le _, Nat.zero_le _⟩ dL_ties_3 (fun H locs hP hS => ?_)
  refine z_topi (y := cTold st iz) rfl ?_
  refine lv_istore_n (lv' := [(3, .int (cTold st iz)), (0, .ref (ad 0)), (1, .int (nI iz)), (2, .int num)]) hx hb dL_ties_6 rfl hl (by decide) rfl (fun ls hl => ?_)
  refine lv_aload_n hx hb dL_ties_7 rfl (lv_at hl 1 rfl) ?_
  refine lv_iload_n hx hb dL_ties_8 rfl (lv_at hl 2 rfl) ?_
  refine lv_iconst (v := (nI 2)) hx hb dL_ties_9 (by decide) ?_
  obtain ⟨fs_10, hfs_10⟩ := hTT.rc
  refine z_Vi_eq (As := [.int (nI iz), .int (nI 2)]) (rest := []) C0 hP hS hl.1 (m_X4_cordOf l _ hTT hi (by decide) hI.pc) lk_L_15 hTT.n0 hfs_10 rfl rfl (Nat.le_of_ble_eq_true rfl) ⟨Nat.le_of_ble_eq_true rfl, Nat.le_of_ble_eq_true rfl⟩ rfl rfl ⟨Nat.zero_le _, Nat.zero_le _⟩ dL_ties_10 (fun H locs hP hS => ?_)
  refine z_topi (y := nI (cm st iz)) (hI.1.pcE hi) ?_
  refine lv_istore (lv' := [(4, .int (nI (cm st iz))), (3, .int (cTold st iz)), (0, .ref (ad 0)), (1, .int (nI iz)), (2, .int num)]) hx hb dL_ties_13 hl (by decide) rfl (fun ls hl => ?_)
  refine lv_aload_n hx hb dL_ties_15 rfl (lv_at hl 2 rfl) ?_
  refine lv_iload_n hx hb dL_ties_16 rfl (lv_at hl 3 rfl) ?_
  refine lv_iconst (v := (nI 4)) hx hb dL_ties_17 (by decide) ?_
  obtain ⟨fs_18, hfs_18⟩ := hTT.rc
  refine z_Vi_eq (As := [.int (nI iz), .int (nI 4)]) (rest := []) C0 hP hS hl.1 (m_X4_cordOf l _ hTT hi (by decide) hI.pc) lk_L_15 hTT.n0 hfs_18 rfl rfl (Nat.le_of_ble_eq_true rfl) ⟨Nat.le_of_ble_eq_true rfl, Nat.le_of_ble_eq_true rfl⟩ rfl rfl ⟨Nat.zero_le _, Nat.zero_le _⟩ dL_ties_18 (fun H locs hP hS => ?_)
  refine z_topi (y := cTies st iz) rfl ?_
  refine lv_istore (lv' := [(5, .int (cTies st iz)), (4, .int (nI (cm st iz))), (3, .int (cTold st iz)), (0, .ref (ad 0)), (1, .int (nI iz)), (2, .int num)]) hx hb dL_ties_21 hl (by decide) rfl (fun ls hl => ?_)
  refine lv_aload_n hx hb dL_ties_23 rfl (lv_at hl 3 rfl) ?_
  refine lv_bipush (v := (nI 6)) hx hb dL_ties_24 (by decide) ?_
  obtain ⟨fs_26, hfs_26⟩ := hTT.rc
  refine z_Vi_eq (As := [.int (nI 6)]) (rest := []) C0 hP hS hl.1 (m_X4_count l _ hTT (by decide) hI.pc) lk_L_20 hTT.n0 hfs_26 rfl rfl (Nat.le_of_ble_eq_true rfl) ⟨Nat.le_of_ble_eq_true rfl, Nat.le_of_ble_eq_true rfl⟩ rfl rfl ⟨Nat.zero_le _, Nat.zero_le _⟩ dL_ties_26 (fun H locs hP hS => ?_)
  refine z_topi (y := st 4) rfl ?_
  refine lv_istore (lv' := [(6, .int (st 4)), (5, .int (cTies st iz)), (4, .int (nI (cm st iz))), (3, .int (cTold st iz)), (0, .ref (ad 0)), (1, .int (nI iz)), (2, .int num)]) hx hb dL_ties_29 hl (by decide) rfl (fun ls hl => ?_)
  refine lv_aload_n hx hb dL_ties_31 rfl (lv_at hl 4 rfl) ?_
  refine lv_iconst (v := (nI 2)) hx hb dL_ties_32 (by decide) ?_
  obtain ⟨fs_33, hfs_33⟩ := hTT.rc
  refine z_Vi_eq (As := [.int (nI 2)]) (rest := []) C0 hP hS hl.1 (m_X4_count l _ hTT (by decide) hI.pc) lk_L_20 hTT.n0 hfs_33 rfl rfl (Nat.le_of_ble_eq_true rfl) ⟨Nat.le_of_ble_eq_true rfl, Nat.le_of_ble_eq_true rfl⟩ rfl rfl ⟨Nat.zero_le _, Nat.zero_le _⟩ dL_ties_33 (fun H locs hP hS => ?_)
  refine z_topi (y := st 0) rfl ?_
  refine lv_istore (lv' := [(7, .int (st 0)), (6, .int (st 4)), (5, .int (cTies st iz)), (4, .int (nI (cm st iz))), (3, .int (cTold st iz)), (0, .ref (ad 0)), (1, .int (nI iz)), (2, .int num)]) hx hb dL_ties_36 hl (by decide) rfl (fun ls hl => ?_)
  refine lv_aload_n hx hb dL_ties_38 rfl (lv_at hl 5 rfl) ?_
  refine lv_iconst (v := (nI 3)) hx hb dL_ties_39 (by decide) ?_
  obtain ⟨fs_40, hfs_40⟩ := hTT.rc
  refine z_Vi_eq (As := [.int (nI 3)]) (rest := []) C0 hP hS hl.1 (m_X4_count l _ hTT (by decide) hI.pc) lk_L_20 hTT.n0 hfs_40 rfl rfl (Nat.le_of_ble_eq_true rfl) ⟨Nat.le_of_ble_eq_true rfl, Nat.le_of_ble_eq_true rfl⟩ rfl rfl ⟨Nat.zero_le _, Nat.zero_le _⟩ dL_ties_40 (fun H locs hP hS => ?_)
  refine z_topi (y := st 1) rfl ?_
  refine lv_istore (lv' := [(8, .int (st 1)), (7, .int (st 0)), (6, .int (st 4)), (5, .int (cTies st iz)), (4, .int (nI (cm st iz))), (3, .int (cTold st iz)), (0, .ref (ad 0)), (1, .int (nI iz)), (2, .int num)]) hx hb dL_ties_43 hl (by decide) rfl (fun ls hl => ?_)
  refine lv_aload_n hx hb dL_ties_45 rfl (lv_at hl 6 rfl) ?_
  refine lv_iload_n hx hb dL_ties_46 rfl (lv_at hl 7 rfl) ?_
  refine lv_iload_n hx hb dL_ties_47 rfl (lv_at hl 8 rfl) ?_
  obtain ⟨fs_48, hfs_48⟩ := hTT.rc
  refine z_Vi_eq (As := [.int (nI iz), .int num]) (rest := []) C0 hP hS hl.1 (m_X4_whyNot l _ hTT hi hn1 hn2 hI.pc) lk_L_31 hTT.n0 hfs_48 rfl rfl (Nat.le_of_ble_eq_true rfl) ⟨Nat.le_of_ble_eq_true rfl, Nat.le_of_ble_eq_true rfl⟩ rfl rfl ⟨Nat.zero_le _, Nat.zero_le _⟩ dL_ties_48 (fun H locs hP hS => ?_)
  refine lv_istore (lv' := [(9, .int (cRop st iz num)), (8, .int (st 1)), (7, .int (st 0)), (6, .int (st 4)), (5, .int (cTies st iz)), (4, .int (nI (cm st iz))), (3, .int (cTold st iz)), (0, .ref (ad 0)), (1, .int (nI iz)), (2, .int num)]) hx hb dL_ties_51 hl (by decide) rfl (fun ls hl => ?_)
  refine lv_aload_n hx hb dL_ties_53 rfl (lv_at hl 7 rfl) ?_
  refine lv_iload_n hx hb dL_ties_54 rfl (lv_at hl 8 rfl) ?_
  refine lv_iload_n hx hb dL_ties_55 rfl (lv_at hl 9 rfl) ?_
  obtain ⟨fs_56, hfs_56⟩ := hTT.rc
  refine z_Vi_mo (As := [.int (nI iz), .int num]) (rest := []) C0 hP hS hl.1 (m_X4_howOften l _ hTT hi hn1 hn2 hI.pc) lk_L_56 hTT.n0 hfs_56 rfl rfl (Nat.le_of_ble_eq_true rfl) ⟨Nat.le_of_ble_eq_true rfl, Nat.le_of_ble_eq_true rfl⟩ rfl rfl ⟨Nat.zero_le _, Nat.zero_le _⟩ dL_ties_56 (fun r_56 g_1 H locs hP hS hp => ?_)
  obtain ⟨hr_56, hTT, hF1⟩ := hp
  subst hr_56
  have hFr := hFr.tr (hF1.mono (by intro x9 hx9; first | (dsimp only [zOne, zRg, zCl] at hx9 ⊢; omega) | (dsimp only at hx9 ⊢; omega) | omega))
  refine z_topi (y := nI 0) (congrArg nI (ho_0 hB)) ?_
  refine lv_istore (lv' := [(10, .int (nI 0)), (9, .int (cRop st iz num)), (8, .int (st 1)), (7, .int (st 0)), (6, .int (st 4)), (5, .int (cTies st iz)), (4, .int (nI (cm st iz))), (3, .int (cTold st iz)), (0, .ref (ad 0)), (1, .int (nI iz)), (2, .int num)]) hx hb dL_ties_59 hl (by decide) rfl (fun ls hl => ?_)
  refine lv_iconst (v := 0) hx hb dL_ties_61 (by decide) ?_
  refine z_topi (y := sumN (dgN num) 0) rfl ?_
  refine lv_istore (lv' := [(11, .int (sumN (dgN num) 0)), (10, .int (nI 0)), (9, .int (cRop st iz num)), (8, .int (st 1)), (7, .int (st 0)), (6, .int (st 4)), (5, .int (cTies st iz)), (4, .int (nI (cm st iz))), (3, .int (cTold st iz)), (0, .ref (ad 0)), (1, .int (nI iz)), (2, .int num)]) hx hb dL_ties_62 hl (by decide) rfl (fun ls hl => ?_)
  refine lv_iload_n hx hb dL_ties_64 rfl (lv_at hl 11 rfl) ?_
  refine z_topi (y := lrest num 0) rfl ?_
  refine lv_istore (lv' := [(12, .int (lrest num 0)), (11, .int (sumN (dgN num) 0)), (10, .int (nI 0)), (9, .int (cRop st iz num)), (8, .int (st 1)), (7, .int (st 0)), (6, .int (st 4)), (5, .int (cTies st iz)), (4, .int (nI (cm st iz))), (3, .int (cTold st iz)), (0, .ref (ad 0)), (1, .int (nI iz)), (2, .int num)]) hx hb dL_ties_65 hl (by decide) rfl (fun ls hl => ?_)
  have lp_67 : ∀ (N : Nat) (pz : Nat) (hpz : pz ≤ 6), 6 - pz < N → ∀ (H : Heap) (locs : List Loc) (ls : Array Slot), zP D K ad g_1 (zA K ad s.heap.size) H → va_S (zA K ad s.heap.size) s.heap H locs → lv_has ls 16 [(0, .ref (ad 0)), (1, .int (nI iz)), (2, .int num), (3, .int (cTold st iz)), (4, .int (nI (cm st iz))), (5, .int (cTies st iz)), (6, .int (st 4)), (7, .int (st 0)), (8, .int (st 1)), (9, .int (cRop st iz num)), (10, .int (nI 0)), (11, .int (sumN (dgN num) pz)), (12, .int (lrest num pz))] → W p l e ({ frames := 6, cells := 0, slots := 0, locals := 147 } : Room) s m [.ref (ad 0), .int (nI iz), .int num].toArray below meth c H locs 0 0 (MQ below (va_Qi (fun r g1 => r = 1 ∧ isT cy K ad g1 (tieS st iz num) (va_up sv nx st) ((nx + 1) % 6) (min (sz2 + 1) 6) ns ss bu ln ∧ zFr zCl g g1) (zOut D cy K ad s.heap.size) (zA K ad s.heap.size)) [.ref (ad 0), .int (nI iz), .int num].toArray s 0 0 (zA K ad s.heap.size)) (F0 m 67 ls []) := by
    intro N
    induction N with
    | zero => intro pz hpz hN; exact absurd hN (Nat.not_lt_zero _)
    | succ N ih_67 =>
      intro pz hpz hN H locs ls hP hS  hl
      refine lv_iload hx hb dL_ties_67 (lv_at hl 12 rfl) ?_
      refine lv_if_le (tgt := 92) hx hb dL_ties_69 (by decide) (fun c_69 => ?_) (fun c_69 => ?_)
      · have hdg := dg_6 (by omega) hpz c_69
        rw [hdg] at hl
        refine lv_iload hx hb dL_ties_92 (lv_at hl 9 rfl) ?_
        refine lv_iconst (v := 3) hx hb dL_ties_94 (by decide) ?_
        refine lv_icmp_ne (tgt := 113) hx hb dL_ties_95 (by decide) (fun c_95 => ?_) (fun c_95 => ?_)
        · refine lv_iload hx hb dL_ties_113 (lv_at hl 9 rfl) ?_
          refine lv_iconst (v := 1) hx hb dL_ties_115 (by decide) ?_
          refine lv_icmp_ne (tgt := 135) hx hb dL_ties_116 (by decide) (fun c_116 => ?_) (fun c_116 => ?_)
          · refine lv_iload hx hb dL_ties_135 (lv_at hl 9 rfl) ?_
            refine lv_iconst (v := 2) hx hb dL_ties_137 (by decide) ?_
            refine lv_icmp_ne (tgt := 164) hx hb dL_ties_138 (by decide) (fun c_138 => absurd (rop_012 c_95 c_116 c_138) hB) (fun c_138 => ?_)
            refine lv_iload_n hx hb dL_ties_141 rfl (lv_at hl 3 rfl) ?_
            refine lv_iload_n hx hb dL_ties_142 rfl (lv_at hl 2 rfl) ?_
            refine lv_iadd hx hb dL_ties_143 ?_
            refine lv_ldc hx hb hown (hts _ q435) dL_ties_144 ?_
            refine lv_icmp_gt (tgt := 160) hx hb dL_ties_146 (by decide) (fun c_146 => absurd c_146 (Int32.not_lt.mpr (rop_1 (rop_3 c_95) c_116))) (fun c_146 => ?_)
            refine lv_iload hx hb dL_ties_149 (lv_at hl 4 rfl) ?_
            refine lv_bipush (v := 16) hx hb dL_ties_151 (by decide) ?_
            refine lv_icmp_ge (tgt := 160) hx hb dL_ties_153 (by decide) (fun c_153 => absurd c_153 (nI_ge (b := 16) (rop_3 c_95) (by decide))) (fun c_153 => ?_)
            refine lv_iconst (v := 1) hx hb dL_ties_156 (by decide) ?_
            refine lv_goto (tgt := 184) hx hb dL_ties_157 (by decide) ?_
            refine lv_istore (lv' := [(12, .int 1), (0, .ref (ad 0)), (1, .int (nI iz)), (2, .int num), (3, .int (cTold st iz)), (4, .int (nI (cm st iz))), (5, .int (cTies st iz)), (6, .int (st 4)), (7, .int (st 0)), (8, .int (st 1)), (9, .int (cRop st iz num)), (10, .int (nI 0)), (11, .int (sumN (dgN num) 6))]) hx hb dL_ties_184 hl (by decide) rfl (fun ls hl => ?_)
            refine lv_aload_n hx hb dL_ties_186 rfl (lv_at hl 1 rfl) ?_
            refine lv_iload_n hx hb dL_ties_187 rfl (lv_at hl 2 rfl) ?_
            refine lv_iload_n hx hb dL_ties_188 rfl (lv_at hl 3 rfl) ?_
            obtain ⟨fs_189, hfs_189⟩ := hTT.rc
            refine z_Vi_mo (As := [.int (nI iz), .int num]) (rest := []) C0 hP hS hl.1 (m_X4_tie l _ hTT hi hn1 hn2 hI.pc hnx hsz) lk_L_60 hTT.n0 hfs_189 rfl rfl (Nat.le_of_ble_eq_true rfl) ⟨Nat.le_of_ble_eq_true rfl, Nat.le_of_ble_eq_true rfl⟩ rfl rfl ⟨Nat.zero_le _, Nat.zero_le _⟩ dL_ties_189 (fun r_189 g_3 H locs hP hS hp => ?_)
            obtain ⟨hr_189, hTT, hF1⟩ := hp
            subst hr_189
            have hFr := hFr.tr (hF1.mono (by intro x9 hx9; first | (dsimp only [zOne, zRg, zCl] at hx9 ⊢; omega) | (dsimp only at hx9 ⊢; omega) | omega))
            rw [eS] at hTT
            have hI2 : pI tz (upd st 4 (st 4 + 1)) := hI.u4 _
            refine z_topi (y := cRop st iz num) (if_neg hB) ?_
            refine lv_istore (lv' := [(13, .int (cRop st iz num)), (12, .int 1), (0, .ref (ad 0)), (1, .int (nI iz)), (2, .int num), (3, .int (cTold st iz)), (4, .int (nI (cm st iz))), (5, .int (cTies st iz)), (6, .int (st 4)), (7, .int (st 0)), (8, .int (st 1)), (9, .int (cRop st iz num)), (10, .int (nI 0)), (11, .int (sumN (dgN num) 6))]) hx hb dL_ties_192 hl (by decide) rfl (fun ls hl => ?_)
            refine lv_iload hx hb dL_ties_194 (lv_at hl 11 rfl) ?_
            refine lv_if_le (tgt := 256) hx hb dL_ties_196 (by decide) (fun c_196 => absurd c_196 (rop_nle hB)) (fun c_196 => ?_)
            refine lv_iload hx hb dL_ties_199 (lv_at hl 1 rfl) ?_
            refine lv_if_eq (tgt := 254) hx hb dL_ties_201 (by decide) (fun c_201 => absurd c_201 (by decide)) (fun c_201 => ?_)
            refine lv_iload hx hb dL_ties_204 (lv_at hl 12 rfl) ?_
            refine lv_if_ne (tgt := 254) hx hb dL_ties_206 (by decide) (fun c_206 => absurd (rfl) c_206) (fun c_206 => ?_)
            refine lv_iload hx hb dL_ties_209 (lv_at hl 0 rfl) ?_
            refine lv_iload hx hb dL_ties_211 (lv_at hl 11 rfl) ?_
            refine lv_icmp_ne (tgt := 254) hx hb dL_ties_213 (by decide) (fun c_213 => absurd (rfl) c_213) (fun c_213 => ?_)
            refine lv_aload_n hx hb dL_ties_216 rfl (lv_at hl 2 rfl) ?_
            refine lv_bipush (v := (nI 6)) hx hb dL_ties_217 (by decide) ?_
            obtain ⟨fs_219, hfs_219⟩ := hTT.rc
            refine z_Vi_eq (As := [.int (nI 6)]) (rest := []) C0 hP hS hl.1 (m_X4_count l _ hTT (by decide) hI2.pc) lk_L_20 hTT.n0 hfs_219 rfl rfl (Nat.le_of_ble_eq_true rfl) ⟨Nat.le_of_ble_eq_true rfl, Nat.le_of_ble_eq_true rfl⟩ rfl rfl ⟨Nat.zero_le _, Nat.zero_le _⟩ dL_ties_219 (fun H locs hP hS => ?_)
            refine z_topi (y := st 4 + 1) upd4_4 ?_
            refine lv_iload hx hb dL_ties_222 (lv_at hl 8 rfl) ?_
            refine lv_iconst (v := 1) hx hb dL_ties_224 (by decide) ?_
            refine lv_iadd hx hb dL_ties_225 ?_
            refine lv_icmp_ne (tgt := 254) hx hb dL_ties_226 (by decide) (fun c_226 => absurd (rfl) c_226) (fun c_226 => ?_)
            refine lv_aload_n hx hb dL_ties_229 rfl (lv_at hl 2 rfl) ?_
            refine lv_iload_n hx hb dL_ties_230 rfl (lv_at hl 3 rfl) ?_
            refine lv_iconst (v := (nI 0)) hx hb dL_ties_231 (by decide) ?_
            obtain ⟨fs_232, hfs_232⟩ := hTT.rc
            refine z_Vi_eq (As := [.int (nI iz), .int (nI 0)]) (rest := []) C0 hP hS hl.1 (m_X4_cordOf l _ hTT hi (by decide) hI2.pc) lk_L_15 hTT.n0 hfs_232 rfl rfl (Nat.le_of_ble_eq_true rfl) ⟨Nat.le_of_ble_eq_true rfl, Nat.le_of_ble_eq_true rfl⟩ rfl rfl ⟨Nat.zero_le _, Nat.zero_le _⟩ dL_ties_232 (fun H locs hP hS => ?_)
            refine z_topi (y := cTold st iz) (u4_told hI.1 hi _) ?_
            refine lv_iload_n hx hb dL_ties_235 rfl (lv_at hl 5 rfl) ?_
            refine lv_icmp_ne (tgt := 254) hx hb dL_ties_236 (by decide) (fun c_236 => absurd (rfl) c_236) (fun c_236 => ?_)
            refine lv_aload_n hx hb dL_ties_239 rfl (lv_at hl 2 rfl) ?_
            refine lv_iload_n hx hb dL_ties_240 rfl (lv_at hl 3 rfl) ?_
            refine lv_iconst (v := (nI 4)) hx hb dL_ties_241 (by decide) ?_
            obtain ⟨fs_242, hfs_242⟩ := hTT.rc
            refine z_Vi_eq (As := [.int (nI iz), .int (nI 4)]) (rest := []) C0 hP hS hl.1 (m_X4_cordOf l _ hTT hi (by decide) hI2.pc) lk_L_15 hTT.n0 hfs_242 rfl rfl (Nat.le_of_ble_eq_true rfl) ⟨Nat.le_of_ble_eq_true rfl, Nat.le_of_ble_eq_true rfl⟩ rfl rfl ⟨Nat.zero_le _, Nat.zero_le _⟩ dL_ties_242 (fun H locs hP hS => ?_)
            refine z_topi (y := cTies st iz) (u4_ties hI.1 hi _) ?_
            refine lv_iload hx hb dL_ties_245 (lv_at hl 7 rfl) ?_
            refine lv_icmp_ne (tgt := 254) hx hb dL_ties_247 (by decide) (fun c_247 => absurd (rfl) c_247) (fun c_247 => ?_)
            refine lv_iconst (v := 1) hx hb dL_ties_250 (by decide) ?_
            refine lv_goto (tgt := 255) hx hb dL_ties_251 (by decide) ?_
            exact z_zret C0 hP hS hr rfl (⟨rfl, by rw [eS]; exact hTT, hFr⟩) dL_ties_255
          · refine lv_iload_n hx hb dL_ties_119 rfl (lv_at hl 3 rfl) ?_
            refine lv_iload_n hx hb dL_ties_120 rfl (lv_at hl 2 rfl) ?_
            refine lv_iadd hx hb dL_ties_121 ?_
            refine lv_ldc hx hb hown (hts _ q435) dL_ties_122 ?_
            refine lv_icmp_le (tgt := 131) hx hb dL_ties_124 (by decide) (fun c_124 => absurd c_124 (rop_e1 c_116)) (fun c_124 => ?_)
            refine lv_iconst (v := 1) hx hb dL_ties_127 (by decide) ?_
            refine lv_goto (tgt := 184) hx hb dL_ties_128 (by decide) ?_
            refine lv_istore (lv' := [(12, .int 1), (0, .ref (ad 0)), (1, .int (nI iz)), (2, .int num), (3, .int (cTold st iz)), (4, .int (nI (cm st iz))), (5, .int (cTies st iz)), (6, .int (st 4)), (7, .int (st 0)), (8, .int (st 1)), (9, .int (cRop st iz num)), (10, .int (nI 0)), (11, .int (sumN (dgN num) 6))]) hx hb dL_ties_184 hl (by decide) rfl (fun ls hl => ?_)
            refine lv_aload_n hx hb dL_ties_186 rfl (lv_at hl 1 rfl) ?_
            refine lv_iload_n hx hb dL_ties_187 rfl (lv_at hl 2 rfl) ?_
            refine lv_iload_n hx hb dL_ties_188 rfl (lv_at hl 3 rfl) ?_
            obtain ⟨fs_189, hfs_189⟩ := hTT.rc
            refine z_Vi_mo (As := [.int (nI iz), .int num]) (rest := []) C0 hP hS hl.1 (m_X4_tie l _ hTT hi hn1 hn2 hI.pc hnx hsz) lk_L_60 hTT.n0 hfs_189 rfl rfl (Nat.le_of_ble_eq_true rfl) ⟨Nat.le_of_ble_eq_true rfl, Nat.le_of_ble_eq_true rfl⟩ rfl rfl ⟨Nat.zero_le _, Nat.zero_le _⟩ dL_ties_189 (fun r_189 g_4 H locs hP hS hp => ?_)
            obtain ⟨hr_189, hTT, hF1⟩ := hp
            subst hr_189
            have hFr := hFr.tr (hF1.mono (by intro x9 hx9; first | (dsimp only [zOne, zRg, zCl] at hx9 ⊢; omega) | (dsimp only at hx9 ⊢; omega) | omega))
            rw [eS] at hTT
            have hI2 : pI tz (upd st 4 (st 4 + 1)) := hI.u4 _
            refine z_topi (y := cRop st iz num) (if_neg hB) ?_
            refine lv_istore (lv' := [(13, .int (cRop st iz num)), (12, .int 1), (0, .ref (ad 0)), (1, .int (nI iz)), (2, .int num), (3, .int (cTold st iz)), (4, .int (nI (cm st iz))), (5, .int (cTies st iz)), (6, .int (st 4)), (7, .int (st 0)), (8, .int (st 1)), (9, .int (cRop st iz num)), (10, .int (nI 0)), (11, .int (sumN (dgN num) 6))]) hx hb dL_ties_192 hl (by decide) rfl (fun ls hl => ?_)
            refine lv_iload hx hb dL_ties_194 (lv_at hl 11 rfl) ?_
            refine lv_if_le (tgt := 256) hx hb dL_ties_196 (by decide) (fun c_196 => absurd c_196 (rop_nle hB)) (fun c_196 => ?_)
            refine lv_iload hx hb dL_ties_199 (lv_at hl 1 rfl) ?_
            refine lv_if_eq (tgt := 254) hx hb dL_ties_201 (by decide) (fun c_201 => absurd c_201 (by decide)) (fun c_201 => ?_)
            refine lv_iload hx hb dL_ties_204 (lv_at hl 12 rfl) ?_
            refine lv_if_ne (tgt := 254) hx hb dL_ties_206 (by decide) (fun c_206 => absurd (rfl) c_206) (fun c_206 => ?_)
            refine lv_iload hx hb dL_ties_209 (lv_at hl 0 rfl) ?_
            refine lv_iload hx hb dL_ties_211 (lv_at hl 11 rfl) ?_
            refine lv_icmp_ne (tgt := 254) hx hb dL_ties_213 (by decide) (fun c_213 => absurd (rfl) c_213) (fun c_213 => ?_)
            refine lv_aload_n hx hb dL_ties_216 rfl (lv_at hl 2 rfl) ?_
            refine lv_bipush (v := (nI 6)) hx hb dL_ties_217 (by decide) ?_
            obtain ⟨fs_219, hfs_219⟩ := hTT.rc
            refine z_Vi_eq (As := [.int (nI 6)]) (rest := []) C0 hP hS hl.1 (m_X4_count l _ hTT (by decide) hI2.pc) lk_L_20 hTT.n0 hfs_219 rfl rfl (Nat.le_of_ble_eq_true rfl) ⟨Nat.le_of_ble_eq_true rfl, Nat.le_of_ble_eq_true rfl⟩ rfl rfl ⟨Nat.zero_le _, Nat.zero_le _⟩ dL_ties_219 (fun H locs hP hS => ?_)
            refine z_topi (y := st 4 + 1) upd4_4 ?_
            refine lv_iload hx hb dL_ties_222 (lv_at hl 8 rfl) ?_
            refine lv_iconst (v := 1) hx hb dL_ties_224 (by decide) ?_
            refine lv_iadd hx hb dL_ties_225 ?_
            refine lv_icmp_ne (tgt := 254) hx hb dL_ties_226 (by decide) (fun c_226 => absurd (rfl) c_226) (fun c_226 => ?_)
            refine lv_aload_n hx hb dL_ties_229 rfl (lv_at hl 2 rfl) ?_
            refine lv_iload_n hx hb dL_ties_230 rfl (lv_at hl 3 rfl) ?_
            refine lv_iconst (v := (nI 0)) hx hb dL_ties_231 (by decide) ?_
            obtain ⟨fs_232, hfs_232⟩ := hTT.rc
            refine z_Vi_eq (As := [.int (nI iz), .int (nI 0)]) (rest := []) C0 hP hS hl.1 (m_X4_cordOf l _ hTT hi (by decide) hI2.pc) lk_L_15 hTT.n0 hfs_232 rfl rfl (Nat.le_of_ble_eq_true rfl) ⟨Nat.le_of_ble_eq_true rfl, Nat.le_of_ble_eq_true rfl⟩ rfl rfl ⟨Nat.zero_le _, Nat.zero_le _⟩ dL_ties_232 (fun H locs hP hS => ?_)
            refine z_topi (y := cTold st iz) (u4_told hI.1 hi _) ?_
            refine lv_iload_n hx hb dL_ties_235 rfl (lv_at hl 5 rfl) ?_
            refine lv_icmp_ne (tgt := 254) hx hb dL_ties_236 (by decide) (fun c_236 => absurd (rfl) c_236) (fun c_236 => ?_)
            refine lv_aload_n hx hb dL_ties_239 rfl (lv_at hl 2 rfl) ?_
            refine lv_iload_n hx hb dL_ties_240 rfl (lv_at hl 3 rfl) ?_
            refine lv_iconst (v := (nI 4)) hx hb dL_ties_241 (by decide) ?_
            obtain ⟨fs_242, hfs_242⟩ := hTT.rc
            refine z_Vi_eq (As := [.int (nI iz), .int (nI 4)]) (rest := []) C0 hP hS hl.1 (m_X4_cordOf l _ hTT hi (by decide) hI2.pc) lk_L_15 hTT.n0 hfs_242 rfl rfl (Nat.le_of_ble_eq_true rfl) ⟨Nat.le_of_ble_eq_true rfl, Nat.le_of_ble_eq_true rfl⟩ rfl rfl ⟨Nat.zero_le _, Nat.zero_le _⟩ dL_ties_242 (fun H locs hP hS => ?_)
            refine z_topi (y := cTies st iz) (u4_ties hI.1 hi _) ?_
            refine lv_iload hx hb dL_ties_245 (lv_at hl 7 rfl) ?_
            refine lv_icmp_ne (tgt := 254) hx hb dL_ties_247 (by decide) (fun c_247 => absurd (rfl) c_247) (fun c_247 => ?_)
            refine lv_iconst (v := 1) hx hb dL_ties_250 (by decide) ?_
            refine lv_goto (tgt := 255) hx hb dL_ties_251 (by decide) ?_
            exact z_zret C0 hP hS hr rfl (⟨rfl, by rw [eS]; exact hTT, hFr⟩) dL_ties_255
        · refine lv_iload hx hb dL_ties_98 (lv_at hl 4 rfl) ?_
          refine lv_bipush (v := 16) hx hb dL_ties_100 (by decide) ?_
          refine lv_icmp_ne (tgt := 109) hx hb dL_ties_102 (by decide) (fun c_102 => absurd (congrArg nI (rop_e3 c_95 (hI.1.m16 hi))) c_102) (fun c_102 => ?_)
          refine lv_iconst (v := 1) hx hb dL_ties_105 (by decide) ?_
          refine lv_goto (tgt := 184) hx hb dL_ties_106 (by decide) ?_
          refine lv_istore (lv' := [(12, .int 1), (0, .ref (ad 0)), (1, .int (nI iz)), (2, .int num), (3, .int (cTold st iz)), (4, .int (nI (cm st iz))), (5, .int (cTies st iz)), (6, .int (st 4)), (7, .int (st 0)), (8, .int (st 1)), (9, .int (cRop st iz num)), (10, .int (nI 0)), (11, .int (sumN (dgN num) 6))]) hx hb dL_ties_184 hl (by decide) rfl (fun ls hl => ?_)
          refine lv_aload_n hx hb dL_ties_186 rfl (lv_at hl 1 rfl) ?_
          refine lv_iload_n hx hb dL_ties_187 rfl (lv_at hl 2 rfl) ?_
          refine lv_iload_n hx hb dL_ties_188 rfl (lv_at hl 3 rfl) ?_
          obtain ⟨fs_189, hfs_189⟩ := hTT.rc
          refine z_Vi_mo (As := [.int (nI iz), .int num]) (rest := []) C0 hP hS hl.1 (m_X4_tie l _ hTT hi hn1 hn2 hI.pc hnx hsz) lk_L_60 hTT.n0 hfs_189 rfl rfl (Nat.le_of_ble_eq_true rfl) ⟨Nat.le_of_ble_eq_true rfl, Nat.le_of_ble_eq_true rfl⟩ rfl rfl ⟨Nat.zero_le _, Nat.zero_le _⟩ dL_ties_189 (fun r_189 g_5 H locs hP hS hp => ?_)
          obtain ⟨hr_189, hTT, hF1⟩ := hp
          subst hr_189
          have hFr := hFr.tr (hF1.mono (by intro x9 hx9; first | (dsimp only [zOne, zRg, zCl] at hx9 ⊢; omega) | (dsimp only at hx9 ⊢; omega) | omega))
          rw [eS] at hTT
          have hI2 : pI tz (upd st 4 (st 4 + 1)) := hI.u4 _
          refine z_topi (y := cRop st iz num) (if_neg hB) ?_
          refine lv_istore (lv' := [(13, .int (cRop st iz num)), (12, .int 1), (0, .ref (ad 0)), (1, .int (nI iz)), (2, .int num), (3, .int (cTold st iz)), (4, .int (nI (cm st iz))), (5, .int (cTies st iz)), (6, .int (st 4)), (7, .int (st 0)), (8, .int (st 1)), (9, .int (cRop st iz num)), (10, .int (nI 0)), (11, .int (sumN (dgN num) 6))]) hx hb dL_ties_192 hl (by decide) rfl (fun ls hl => ?_)
          refine lv_iload hx hb dL_ties_194 (lv_at hl 11 rfl) ?_
          refine lv_if_le (tgt := 256) hx hb dL_ties_196 (by decide) (fun c_196 => absurd c_196 (rop_nle hB)) (fun c_196 => ?_)
          refine lv_iload hx hb dL_ties_199 (lv_at hl 1 rfl) ?_
          refine lv_if_eq (tgt := 254) hx hb dL_ties_201 (by decide) (fun c_201 => absurd c_201 (by decide)) (fun c_201 => ?_)
          refine lv_iload hx hb dL_ties_204 (lv_at hl 12 rfl) ?_
          refine lv_if_ne (tgt := 254) hx hb dL_ties_206 (by decide) (fun c_206 => absurd (rfl) c_206) (fun c_206 => ?_)
          refine lv_iload hx hb dL_ties_209 (lv_at hl 0 rfl) ?_
          refine lv_iload hx hb dL_ties_211 (lv_at hl 11 rfl) ?_
          refine lv_icmp_ne (tgt := 254) hx hb dL_ties_213 (by decide) (fun c_213 => absurd (rfl) c_213) (fun c_213 => ?_)
          refine lv_aload_n hx hb dL_ties_216 rfl (lv_at hl 2 rfl) ?_
          refine lv_bipush (v := (nI 6)) hx hb dL_ties_217 (by decide) ?_
          obtain ⟨fs_219, hfs_219⟩ := hTT.rc
          refine z_Vi_eq (As := [.int (nI 6)]) (rest := []) C0 hP hS hl.1 (m_X4_count l _ hTT (by decide) hI2.pc) lk_L_20 hTT.n0 hfs_219 rfl rfl (Nat.le_of_ble_eq_true rfl) ⟨Nat.le_of_ble_eq_true rfl, Nat.le_of_ble_eq_true rfl⟩ rfl rfl ⟨Nat.zero_le _, Nat.zero_le _⟩ dL_ties_219 (fun H locs hP hS => ?_)
          refine z_topi (y := st 4 + 1) upd4_4 ?_
          refine lv_iload hx hb dL_ties_222 (lv_at hl 8 rfl) ?_
          refine lv_iconst (v := 1) hx hb dL_ties_224 (by decide) ?_
          refine lv_iadd hx hb dL_ties_225 ?_
          refine lv_icmp_ne (tgt := 254) hx hb dL_ties_226 (by decide) (fun c_226 => absurd (rfl) c_226) (fun c_226 => ?_)
          refine lv_aload_n hx hb dL_ties_229 rfl (lv_at hl 2 rfl) ?_
          refine lv_iload_n hx hb dL_ties_230 rfl (lv_at hl 3 rfl) ?_
          refine lv_iconst (v := (nI 0)) hx hb dL_ties_231 (by decide) ?_
          obtain ⟨fs_232, hfs_232⟩ := hTT.rc
          refine z_Vi_eq (As := [.int (nI iz), .int (nI 0)]) (rest := []) C0 hP hS hl.1 (m_X4_cordOf l _ hTT hi (by decide) hI2.pc) lk_L_15 hTT.n0 hfs_232 rfl rfl (Nat.le_of_ble_eq_true rfl) ⟨Nat.le_of_ble_eq_true rfl, Nat.le_of_ble_eq_true rfl⟩ rfl rfl ⟨Nat.zero_le _, Nat.zero_le _⟩ dL_ties_232 (fun H locs hP hS => ?_)
          refine z_topi (y := cTold st iz) (u4_told hI.1 hi _) ?_
          refine lv_iload_n hx hb dL_ties_235 rfl (lv_at hl 5 rfl) ?_
          refine lv_icmp_ne (tgt := 254) hx hb dL_ties_236 (by decide) (fun c_236 => absurd (rfl) c_236) (fun c_236 => ?_)
          refine lv_aload_n hx hb dL_ties_239 rfl (lv_at hl 2 rfl) ?_
          refine lv_iload_n hx hb dL_ties_240 rfl (lv_at hl 3 rfl) ?_
          refine lv_iconst (v := (nI 4)) hx hb dL_ties_241 (by decide) ?_
          obtain ⟨fs_242, hfs_242⟩ := hTT.rc
          refine z_Vi_eq (As := [.int (nI iz), .int (nI 4)]) (rest := []) C0 hP hS hl.1 (m_X4_cordOf l _ hTT hi (by decide) hI2.pc) lk_L_15 hTT.n0 hfs_242 rfl rfl (Nat.le_of_ble_eq_true rfl) ⟨Nat.le_of_ble_eq_true rfl, Nat.le_of_ble_eq_true rfl⟩ rfl rfl ⟨Nat.zero_le _, Nat.zero_le _⟩ dL_ties_242 (fun H locs hP hS => ?_)
          refine z_topi (y := cTies st iz) (u4_ties hI.1 hi _) ?_
          refine lv_iload hx hb dL_ties_245 (lv_at hl 7 rfl) ?_
          refine lv_icmp_ne (tgt := 254) hx hb dL_ties_247 (by decide) (fun c_247 => absurd (rfl) c_247) (fun c_247 => ?_)
          refine lv_iconst (v := 1) hx hb dL_ties_250 (by decide) ?_
          refine lv_goto (tgt := 255) hx hb dL_ties_251 (by decide) ?_
          exact z_zret C0 hP hS hr rfl (⟨rfl, by rw [eS]; exact hTT, hFr⟩) dL_ties_255
      · have hp2 : pz < 6 := dg_lt (by omega) hnb.2 hpz c_69
        refine lv_iload hx hb dL_ties_72 (lv_at hl 11 rfl) ?_
        refine lv_iload hx hb dL_ties_74 (lv_at hl 12 rfl) ?_
        refine lv_bipush (v := 10) hx hb dL_ties_76 (by decide) ?_
        refine lv_irem hx hb dL_ties_78 (by decide) ?_
        refine lv_iadd hx hb dL_ties_79 ?_
        refine z_topi (y := sumN (dgN num) (pz + 1)) rfl ?_
        refine lv_istore (lv' := [(11, .int (sumN (dgN num) (pz + 1))), (0, .ref (ad 0)), (1, .int (nI iz)), (2, .int num), (3, .int (cTold st iz)), (4, .int (nI (cm st iz))), (5, .int (cTies st iz)), (6, .int (st 4)), (7, .int (st 0)), (8, .int (st 1)), (9, .int (cRop st iz num)), (10, .int (nI 0)), (12, .int (lrest num pz))]) hx hb dL_ties_80 hl (by decide) rfl (fun ls hl => ?_)
        refine lv_iload hx hb dL_ties_82 (lv_at hl 12 rfl) ?_
        refine lv_bipush (v := 10) hx hb dL_ties_84 (by decide) ?_
        refine lv_idiv hx hb dL_ties_86 (by decide) ?_
        refine z_topi (y := lrest num (pz + 1)) rfl ?_
        refine lv_istore (lv' := [(12, .int (lrest num (pz + 1))), (11, .int (sumN (dgN num) (pz + 1))), (0, .ref (ad 0)), (1, .int (nI iz)), (2, .int num), (3, .int (cTold st iz)), (4, .int (nI (cm st iz))), (5, .int (cTies st iz)), (6, .int (st 4)), (7, .int (st 0)), (8, .int (st 1)), (9, .int (cRop st iz num)), (10, .int (nI 0))]) hx hb dL_ties_87 hl (by decide) rfl (fun ls hl => ?_)
        refine lv_goto (tgt := 67) hx hb dL_ties_89 (by decide) ?_
        exact ih_67 (pz + 1) (by omega) (by omega) _ _ _ hP hS  (lv_sub hl [2, 3, 4, 5, 6, 7, 8, 9, 10, 11, 12, 1, 0] rfl)
  exact lp_67 _ 0 (by decide) (Nat.lt_succ_self _) _ _ _ hP hS  (lv_sub hl [10, 11, 12, 9, 8, 7, 6, 5, 4, 3, 2, 1, 0] rfl)
theorem m_L_ties (l : Launch) {D : va_G} {cy : Nat → ClassId} {K : Nat} {ad : Nat → Nat} {g : Nat → va_E} (sz : Nat) {st : Nat → Int32} {sv : Nat → Nat → Int32} {nx sz2 : Nat} {ns : Nat → Option Nat} {ss : Nat → Nat → Int32} {bu : Nat → Int32} {ln : Nat} {tz : Nat} {iz : Nat} {num : Int32} (hTT : isT cy K ad g st sv nx sz2 ns ss bu ln) (hi : iz < 7) (hn1 : ¬ num < 1) (hn2 : num ≤ 999999) (hI : pI tz st) (hnx : nx < 6) (hsz : sz2 ≤ 6) : Met l yL_ties (zs yL_ties cL_ties 16 (some .boolean)) ({ frames := 6, cells := 0, slots := 0, locals := 147 } : Room) (va_Pc [.ref (ad 0), .int (nI iz), .int num] (zIn D cy K ad g sz)) (va_Qi (fun r g1 => r = 1 ∧ isT cy K ad g1 (tieS st iz num) (va_up sv nx st) ((nx + 1) % 6) (min (sz2 + 1) 6) ns ss bu ln ∧ zFr zCl g g1) (zOut D cy K ad sz) (zA K ad sz)) 0 0 (zA K ad sz) := by
  by_cases h0 : cRop st iz num = 0
  · exact m_L_tiesA l sz hTT hi hn1 hn2 hI hnx hsz h0
  · exact m_L_tiesB l sz hTT hi hn1 hn2 hI hnx hsz h0
