set_option maxHeartbeats 4000000 in
set_option maxRecDepth 100000 in
theorem m_X4_closedShare (l : Launch) {D : va_G} {cy : Nat → ClassId} {K : Nat} {ad : Nat → Nat} {g : Nat → va_E} (sz : Nat) {st : Nat → Int32} {sv : Nat → Nat → Int32} {nx sz2 : Nat} {ns : Nat → Option Nat} {ss : Nat → Nat → Int32} {bu : Nat → Int32} {ln : Nat}  (hTT : isT cy K ad g st sv nx sz2 ns ss bu ln) : Met l yX4_closedShare (zs yX4_closedShare cX4_closedShare 2 (some .double)) ({ frames := 3, cells := 0, slots := 0, locals := 68 } : Room) (va_Pc [.ref (ad 0)] (zIn D cy K ad g sz)) (va_Qd (fun r g1 => g1 = g ∧ r = shaF (10 * sumN (allL st) 7) (sumN (allK st) 7)) (zOut D cy K ad sz) (zA K ad sz)) 0 0 (zA K ad sz) := by
  refine z_met (by decide) (Nat.le_of_ble_eq_true rfl) (fun p e s m below meth c ls hsz hl C0 hr hnm hP hS => ?_)
  subst hsz
  have hl : lv_has ls 2 [(0, .ref (ad 0))] := hl
  have hx := C0.1; have hb := C0.2.1; have hown := C0.2.2.2.1; have hts := C0.2.2.2.2.1
  obtain ⟨sn, tl, rs, x, hX, hH, hHi, hRs, hTr, hSn⟩ := id hTT
  have hR : isR cy K ad g 215 rs.1 rs.2.1 rs.2.2.1 rs.2.2.2.1 rs.2.2.2.2 := hRs
  refine lv_aload_n hx hb dX4_closedShare_0 rfl (lv_at hl 0 rfl) ?_
  refine z_get C0 hP hX.n0 hX.o fd_X4_10 rfl dX4_closedShare_1 ?_
  obtain ⟨fs_4, hfs_4⟩ := hH.rc
  refine z_Vi_eq (As := []) (rest := []) C0 hP hS hl.1 (m_X1_knots l _ hH) lk_X4_247 hH.n0 hfs_4 rfl rfl (Nat.le_of_ble_eq_true rfl) ⟨Nat.le_of_ble_eq_true rfl, Nat.le_of_ble_eq_true rfl⟩ rfl rfl ⟨Nat.zero_le _, Nat.zero_le _⟩ dX4_closedShare_4 (fun H locs hP hS => ?_)
  refine lv_istore_n (lv' := [(1, .int (sumN (allK st) 7)), (0, .ref (ad 0))]) hx hb dX4_closedShare_7 rfl hl (by decide) rfl (fun ls hl => ?_)
  refine lv_iload_n hx hb dX4_closedShare_8 rfl (lv_at hl 0 rfl) ?_
  refine lv_if_ne (tgt := 16) hx hb dX4_closedShare_9 (by decide) (fun c_9 => ?_) (fun c_9 => ?_)
  · refine lv_bipush (v := 10) hx hb dX4_closedShare_16 (by decide) ?_
    refine lv_aload_n hx hb dX4_closedShare_18 rfl (lv_at hl 1 rfl) ?_
    refine z_get C0 hP hX.n0 hX.o fd_X4_10 rfl dX4_closedShare_19 ?_
    obtain ⟨fs_22, hfs_22⟩ := hH.rc
    refine z_Vi_eq (As := []) (rest := [.int 10]) C0 hP hS hl.1 (m_X1_loops l _ hH) lk_X4_249 hH.n0 hfs_22 rfl rfl (Nat.le_of_ble_eq_true rfl) ⟨Nat.le_of_ble_eq_true rfl, Nat.le_of_ble_eq_true rfl⟩ rfl rfl ⟨Nat.zero_le _, Nat.zero_le _⟩ dX4_closedShare_22 (fun H locs hP hS => ?_)
    refine lv_imul hx hb dX4_closedShare_25 ?_
    refine lv_i2d hx hb dX4_closedShare_26 ?_
    refine lv_iload_n hx hb dX4_closedShare_27 rfl (lv_at hl 0 rfl) ?_
    refine lv_i2d hx hb dX4_closedShare_28 ?_
    refine lv_ddiv hx hb dX4_closedShare_29 (n64_of (div_ok c_9)) ?_
    exact z_dret C0 hP hS hr (⟨rfl, (if_neg c_9).symm⟩) dX4_closedShare_30
  · refine lv_dconst0 hx hb dX4_closedShare_12 ?_
    refine lv_goto (tgt := 30) hx hb dX4_closedShare_13 (by decide) ?_
    exact z_dret C0 hP hS hr (⟨rfl, (if_pos c_9).symm⟩) dX4_closedShare_30
set_option maxHeartbeats 4000000 in
set_option maxRecDepth 100000 in
theorem m_X4_bitsOfShare (l : Launch) {D : va_G} {cy : Nat → ClassId} {K : Nat} {ad : Nat → Nat} {g : Nat → va_E} (sz : Nat) {dz : UInt64} (hd : FP.Core.dIsNaN dz = false) : Met l yX4_bitsOfShare (zs yX4_bitsOfShare cX4_bitsOfShare 8 (some .long)) ({ frames := 0, cells := 0, slots := 0, locals := 0 } : Room) (va_Pc [.double dz] (zIn D cy K ad g sz)) (va_Ql (fun r g1 => g1 = g ∧ r = bitsF dz) (zOut D cy K ad sz) (zA K ad sz)) 0 0 (zA K ad sz) := by
  refine z_met (by decide) (Nat.le_of_ble_eq_true rfl) (fun p e s m below meth c ls hsz hl C0 hr hnm hP hS => ?_)
  subst hsz
  have hl : lv_has ls 8 [(0, .double dz)] := hl
  have hx := C0.1; have hb := C0.2.1; have hown := C0.2.2.2.1; have hts := C0.2.2.2.2.1
  refine lv_dload_n hx hb dX4_bitsOfShare_0 rfl (lv_at hl 0 rfl) ?_
  refine lv_dconst0 hx hb dX4_bitsOfShare_1 ?_
  refine lv_dcmp hx hb dX4_bitsOfShare_2 ?_
  refine lv_if_gt (tgt := 8) hx hb dX4_bitsOfShare_3 (by decide) (fun c_3 => ?_) (fun c_3 => ?_)
  · refine lv_dload_n hx hb dX4_bitsOfShare_8 rfl (lv_at hl 0 rfl) ?_
    refine lv_dstore_n (lv' := [(2, .double dz), (0, .double dz)]) hx hb dX4_bitsOfShare_9 rfl hl (by decide) rfl (fun ls hl => ?_)
    refine lv_ldc2 hx hb hown (hts _ q559) dX4_bitsOfShare_10 ?_
    refine z_topl (y := expL 0) (by decide +kernel) ?_
    refine lv_lstore (lv' := [(4, .long (expL 0)), (2, .double dz), (0, .double dz)]) hx hb dX4_bitsOfShare_13 hl (by decide) rfl (fun ls hl => ?_)
    have lp_15 : ∀ (N : Nat) (kz : Nat) (hk : kz ≤ 1022) (hn : nD dz kz = kz), 1022 - kz < N → ∀ (H : Heap) (locs : List Loc) (ls : Array Slot), zP D K ad g (zA K ad s.heap.size) H → va_S (zA K ad s.heap.size) s.heap H locs → lv_has ls 8 [(0, .double dz), (2, .double (itD dz kz)), (4, .long (expL kz))] → W p l e ({ frames := 0, cells := 0, slots := 0, locals := 0 } : Room) s m [.double dz].toArray below meth c H locs 0 0 (MQ below (va_Ql (fun r g1 => g1 = g ∧ r = bitsF dz) (zOut D cy K ad s.heap.size) (zA K ad s.heap.size)) [.double dz].toArray s 0 0 (zA K ad s.heap.size)) (F0 m 15 ls []) := by
      intro N
      induction N with
      | zero => intro kz hk hn hN; exact absurd hN (Nat.not_lt_zero _)
      | succ N ih_15 =>
        intro kz hk hn hN H locs ls hP hS  hl
        refine lv_dload_n hx hb dX4_bitsOfShare_15 rfl (lv_at hl 1 rfl) ?_
        refine lv_dconst1 hx hb dX4_bitsOfShare_16 ?_
        refine lv_dcmp hx hb dX4_bitsOfShare_17 ?_
        refine lv_if_ge (tgt := 43) hx hb dX4_bitsOfShare_18 (by decide) (fun c_18 => ?_) (fun c_18 => ?_)
        · refine lv_dload_n hx hb dX4_bitsOfShare_43 rfl (lv_at hl 1 rfl) ?_
          refine lv_dconst1 hx hb dX4_bitsOfShare_44 ?_
          refine lv_dsub hx hb dX4_bitsOfShare_45 (n64_of (sub_ok (itD_ok hd kz))) ?_
          refine lv_ldc2d hx hb hown (hts _ q561) dX4_bitsOfShare_46 ?_
          refine lv_dmul hx hb dX4_bitsOfShare_49 (n64_of (frac_ok (itD_ok hd kz))) ?_
          refine lv_d2l hx hb dX4_bitsOfShare_50 ?_
          refine lv_lstore (lv' := [(6, .long (FP.d2l (FP.dmul (FP.dsub (itD dz kz) FP.dconst1) 4841369599423283200))), (0, .double dz), (2, .double (itD dz kz)), (4, .long (expL kz))]) hx hb dX4_bitsOfShare_51 hl (by decide) rfl (fun ls hl => ?_)
          refine lv_lload hx hb dX4_bitsOfShare_53 (lv_at hl 3 rfl) ?_
          refine lv_bipush (v := 52) hx hb dX4_bitsOfShare_55 (by decide) ?_
          refine lv_lshl hx hb dX4_bitsOfShare_57 rfl ?_
          refine lv_lload hx hb dX4_bitsOfShare_58 (lv_at hl 0 rfl) ?_
          refine lv_ladd hx hb dX4_bitsOfShare_60 ?_
          exact z_lret C0 hP hS hr (⟨rfl, by unfold bitsF; rw [if_neg (fun q => Int32.not_lt.mpr q c_3)]; first | (rw [nD_at hn (fun q => q c_18) (by omega)]; rfl) | (subst hk3; rw [hn]; rfl)⟩) dX4_bitsOfShare_61
        · refine lv_lload hx hb dX4_bitsOfShare_21 (lv_at hl 2 rfl) ?_
          refine lv_lconst (v := 1) hx hb dX4_bitsOfShare_23 (by decide) ?_
          refine W.lcmp hx hb dX4_bitsOfShare_24 ?_
          refine lv_if_le (tgt := 43) hx hb dX4_bitsOfShare_25 (by decide) (fun c_25 => ?_) (fun c_25 => ?_)
          · have hk3 : kz = 1022 := expL_le kz (by omega) c_25
            refine lv_dload_n hx hb dX4_bitsOfShare_43 rfl (lv_at hl 1 rfl) ?_
            refine lv_dconst1 hx hb dX4_bitsOfShare_44 ?_
            refine lv_dsub hx hb dX4_bitsOfShare_45 (n64_of (sub_ok (itD_ok hd kz))) ?_
            refine lv_ldc2d hx hb hown (hts _ q561) dX4_bitsOfShare_46 ?_
            refine lv_dmul hx hb dX4_bitsOfShare_49 (n64_of (frac_ok (itD_ok hd kz))) ?_
            refine lv_d2l hx hb dX4_bitsOfShare_50 ?_
            refine lv_lstore (lv' := [(6, .long (FP.d2l (FP.dmul (FP.dsub (itD dz kz) FP.dconst1) 4841369599423283200))), (0, .double dz), (2, .double (itD dz kz)), (4, .long (expL kz))]) hx hb dX4_bitsOfShare_51 hl (by decide) rfl (fun ls hl => ?_)
            refine lv_lload hx hb dX4_bitsOfShare_53 (lv_at hl 3 rfl) ?_
            refine lv_bipush (v := 52) hx hb dX4_bitsOfShare_55 (by decide) ?_
            refine lv_lshl hx hb dX4_bitsOfShare_57 rfl ?_
            refine lv_lload hx hb dX4_bitsOfShare_58 (lv_at hl 0 rfl) ?_
            refine lv_ladd hx hb dX4_bitsOfShare_60 ?_
            exact z_lret C0 hP hS hr (⟨rfl, by unfold bitsF; rw [if_neg (fun q => Int32.not_lt.mpr q c_3)]; first | (rw [nD_at hn (fun q => q c_18) (by omega)]; rfl) | (subst hk3; rw [hn]; rfl)⟩) dX4_bitsOfShare_61
          · have hk3 : kz < 1022 := expL_gt kz (by omega) c_25
            refine lv_dload_n hx hb dX4_bitsOfShare_28 rfl (lv_at hl 1 rfl) ?_
            refine lv_ldc2d hx hb hown (hts _ q560) dX4_bitsOfShare_29 ?_
            refine lv_dmul hx hb dX4_bitsOfShare_32 (n64_of (itD_ok hd (kz + 1))) ?_
            refine lv_dstore_n (lv' := [(2, .double (FP.dmul (itD dz kz) 4611686018427387904)), (0, .double dz), (4, .long (expL kz))]) hx hb dX4_bitsOfShare_33 rfl hl (by decide) rfl (fun ls hl => ?_)
            refine lv_lload hx hb dX4_bitsOfShare_34 (lv_at hl 2 rfl) ?_
            refine lv_lconst (v := 1) hx hb dX4_bitsOfShare_36 (by decide) ?_
            refine lv_lsub hx hb dX4_bitsOfShare_37 ?_
            refine z_topl (y := expL (kz + 1)) (expL_up kz (by omega)) ?_
            refine z_topl (y := expL (kz + 1)) rfl ?_
            refine lv_lstore (lv' := [(4, .long (expL (kz + 1))), (2, .double (FP.dmul (itD dz kz) 4611686018427387904)), (0, .double dz)]) hx hb dX4_bitsOfShare_38 hl (by decide) rfl (fun ls hl => ?_)
            refine lv_goto (tgt := 15) hx hb dX4_bitsOfShare_40 (by decide) ?_
            exact ih_15 (kz + 1) hk3 (nD_up hn c_18) (by omega) _ _ _ hP hS  (lv_sub hl [2, 1, 0] rfl)
    exact lp_15 _ 0 (Nat.zero_le _) rfl (Nat.lt_succ_self _) _ _ _ hP hS  (lv_sub hl [2, 1, 0] rfl)
  · refine lv_lconst (v := 0) hx hb dX4_bitsOfShare_6 (by decide) ?_
    exact z_lret C0 hP hS hr (⟨rfl, (if_pos (Int32.not_lt.mp c_3)).symm⟩) dX4_bitsOfShare_7
set_option maxHeartbeats 4000000 in
set_option maxRecDepth 100000 in
theorem m_X4_mix (l : Launch) {D : va_G} {cy : Nat → ClassId} {K : Nat} {ad : Nat → Nat} {g : Nat → va_E} (sz : Nat) {hz vz : Int64}  : Met l yX4_mix (zs yX4_mix cX4_mix 4 (some .long)) ({ frames := 0, cells := 0, slots := 0, locals := 0 } : Room) (va_Pc [.long hz, .long vz] (zIn D cy K ad g sz)) (va_Ql (fun r g1 => g1 = g ∧ r = 31 * hz + vz) (zOut D cy K ad sz) (zA K ad sz)) 0 0 (zA K ad sz) := by
  refine z_met (by decide) (Nat.le_of_ble_eq_true rfl) (fun p e s m below meth c ls hsz hl C0 hr hnm hP hS => ?_)
  subst hsz
  have hl : lv_has ls 4 [(0, .long hz), (2, .long vz)] := hl
  have hx := C0.1; have hb := C0.2.1; have hown := C0.2.2.2.1; have hts := C0.2.2.2.2.1
  refine lv_ldc2 hx hb hown (hts _ q411) dX4_mix_0 ?_
  refine lv_lload_n hx hb dX4_mix_3 rfl (lv_at hl 0 rfl) ?_
  refine lv_lmul hx hb dX4_mix_4 ?_
  refine lv_lload_n hx hb dX4_mix_5 rfl (lv_at hl 1 rfl) ?_
  refine lv_ladd hx hb dX4_mix_6 ?_
  exact z_lret C0 hP hS hr (⟨rfl, rfl⟩) dX4_mix_7
