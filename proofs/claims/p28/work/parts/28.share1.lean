set_option maxHeartbeats 4000000 in
set_option maxRecDepth 100000 in
theorem m_X4_closedShare (l : Launch) {D : va_G} {cy : Nat → ClassId} {K : Nat} {ad : Nat → Nat} {g : Nat → va_E} (sz : Nat) {st : Nat → Int32} {sv : Nat → Nat → Int32} {nx sz2 : Nat} {ns : Nat → Option Nat} {ss : Nat → Nat → Int32} {bu : Nat → Int32} {ln : Nat}  (hTT : isT cy K ad g st sv nx sz2 ns ss bu ln) : Met l yX4_closedShare (zs yX4_closedShare cX4_closedShare 2 (some .double)) ({ frames := 3, cells := 0, slots := 0, locals := 68 } : Room) (va_Pc [.ref (ad 0)] (zIn D cy K ad g sz)) (va_Qd (fun r g1 => g1 = g ∧ r = shaF (10 * sumN (allL st) 7) (sumN (allK st) 7)) (zOut D cy K ad sz) (zA K ad sz)) 0 0 (zA K ad sz) := by
  refine z_met (by decide) (Nat.le_of_ble_eq_true rfl) (fun p e s m below meth c ls hsz hl C0 hr hnm hP hS => ?_)
  subst hsz
  have hl : lv_has ls 2 [(0, .ref (ad 0))] := hl
  have hx := C0.1; have hb := C0.2.1; have hown := C0.2.2.2.1; have hts := C0.2.2.2.2.1
  obtain ⟨sn, tl, rs, x, hX, hH, hHi, hRs, hTr, hSn⟩ := id hTT
  have hR : isR cy K ad g 215 rs.1 rs.2.1 rs.2.2.1 rs.2.2.2.1 rs.2.2.2.2 := hRs
  refine lv_aload_n hx hb dX4_closedShare_0 rfl (lv_at hl 0 rfl) ?_
  refine z_get C0 hP hX.n0 hX.o fd_X4_10 rfl dX4_closedShare_1 ?_
  obtain ⟨fs_4, hfs_4⟩ := hH.rc
  refine z_Vi_eq (As := []) (rest := []) C0 hP hS hl.1 (m_X1_knots l _ hH) lk_X4_247 hH.n0 hfs_4 rfl rfl (Nat.le_of_ble_eq_true rfl) ⟨Nat.le_of_ble_eq_true rfl, Nat.le_of_ble_eq_true rfl⟩ rfl rfl ⟨Nat.zero_le _, Nat.zero_le _⟩ dX4_closedShare_4 (fun H locs hP hS => ?_)
  refine lv_istore_n (lv' := [(1, .int (sumN (allK st) 7)), (0, .ref (ad 0))]) hx hb dX4_closedShare_7 rfl hl (by decide) rfl (fun ls hl => ?_)
  refine lv_iload_n hx hb dX4_closedShare_8 rfl (lv_at hl 0 rfl) ?_
  refine lv_if_ne (tgt := 16) hx hb dX4_closedShare_9 (by decide) (fun c_9 => ?_) (fun c_9 => ?_)
  · refine lv_bipush (v := 10) hx hb dX4_closedShare_16 (by decide) ?_
    refine lv_aload_n hx hb dX4_closedShare_18 rfl (lv_at hl 1 rfl) ?_
    refine z_get C0 hP hX.n0 hX.o fd_X4_10 rfl dX4_closedShare_19 ?_
    obtain ⟨fs_22, hfs_22⟩ := hH.rc
    refine z_Vi_eq (As := []) (rest := [.int 10]) C0 hP hS hl.1 (m_X1_loops l _ hH) lk_X4_249 hH.n0 hfs_22 rfl rfl (Nat.le_of_ble_eq_true rfl) ⟨Nat.le_of_ble_eq_true rfl, Nat.le_of_ble_eq_true rfl⟩ rfl rfl ⟨Nat.zero_le _, Nat.zero_le _⟩ dX4_closedShare_22 (fun H locs hP hS => ?_)
    refine lv_imul hx hb dX4_closedShare_25 ?_
    refine lv_i2d hx hb dX4_closedShare_26 ?_
    refine lv_iload_n hx hb dX4_closedShare_27 rfl (lv_at hl 0 rfl) ?_
    refine lv_i2d hx hb dX4_closedShare_28 ?_
    refine lv_ddiv hx hb dX4_closedShare_29 (n64_of (div_ok c_9)) ?_
    exact z_dret C0 hP hS hr (⟨rfl, (if_neg c_9).symm⟩) dX4_closedShare_30
  · refine lv_dconst0 hx hb dX4_closedShare_12 ?_
    refine lv_goto (tgt := 30) hx hb dX4_closedShare_13 (by decide) ?_
    exact z_dret C0 hP hS hr (⟨rfl, (if_pos c_9).symm⟩) dX4_closedShare_30
