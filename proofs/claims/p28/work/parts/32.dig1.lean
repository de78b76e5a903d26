set_option maxHeartbeats 4000000 in
set_option maxRecDepth 100000 in
theorem m_X4_goBack (l : Launch) {D : va_G} {cy : Nat → ClassId} {K : Nat} {ad : Nat → Nat} {g : Nat → va_E} (sz : Nat) {st : Nat → Int32} {sv : Nat → Nat → Int32} {nx sz2 : Nat} {ns : Nat → Option Nat} {ss : Nat → Nat → Int32} {bu : Nat → Int32} {ln : Nat} {jz na : Nat} (hTT : isT cy K ad g st sv nx sz2 ns ss bu ln) (hj : jz < 2) (hns : ns jz = some na) (hnx : nx < 6) (hsz : sz2 ≤ 6) : Met l yX4_goBack (zs yX4_goBack cX4_goBack 3 (some .int)) ({ frames := 4, cells := 0, slots := 0, locals := 124 } : Room) (va_Pc [.ref (ad 0), .int (nI jz)] (zIn D cy K ad g sz)) (va_Qi (fun r g1 => r = sumN (allK (ss jz)) 7 + sumN (allL (ss jz)) 7 ∧ isT cy K ad g1 (ss jz) (va_up sv nx st) ((nx + 1) % 6) (min (sz2 + 1) 6) ns ss bu ln ∧ zFr zCl g g1) (zOut D cy K ad sz) (zA K ad sz)) 0 0 (zA K ad sz) := by
  refine z_met (by decide) (Nat.le_of_ble_eq_true rfl) (fun p e s m below meth c ls hsz hl C0 hr hnm hP hS => ?_)
  subst hsz
  have hl : lv_has ls 3 [(0, .ref (ad 0)), (1, .int (nI jz))] := hl
  have hx := C0.1; have hb := C0.2.1; have hown := C0.2.2.2.1; have hts := C0.2.2.2.2.1
  have hFr : zFr (zCl) g g := zFr.rf
  obtain ⟨sn, tl, rs, x, hX, hH, hHi, hRs, hTr, hSn⟩ := id hTT
  have hR : isR cy K ad g 215 rs.1 rs.2.1 rs.2.2.1 rs.2.2.2.1 rs.2.2.2.2 := hRs
  refine lv_iload_n hx hb dX4_goBack_0 rfl (lv_at hl 1 rfl) ?_
  refine z_Sv_eq (As := [.int (nI jz)]) (rest := []) C0 hP hS hl.1 (m_X4_checkSlot l _ hj) lk_X4_131 rfl rfl (Nat.le_of_ble_eq_true rfl) ⟨Nat.le_of_ble_eq_true rfl, Nat.le_of_ble_eq_true rfl⟩ rfl rfl ⟨Nat.zero_le _, Nat.zero_le _⟩ dX4_goBack_1 (fun H locs hP hS => ?_)
  refine lv_aload_n hx hb dX4_goBack_4 rfl (lv_at hl 0 rfl) ?_
  refine z_get C0 hP hX.n0 hX.o fd_X4_23 rfl dX4_goBack_5 ?_
  refine lv_iload_n hx hb dX4_goBack_8 rfl (lv_at hl 1 rfl) ?_
  refine z_aald C0 hP hX.n213 hX.a_sn rfl (zIx_nI (by omega) (by decide)) (congrArg va_rf (((hSn.1 jz hj).1).trans (congrArg (Option.map ad) hns))) dX4_goBack_9 ?_
  have hS2 := ((hSn.1 jz hj).2 na hns).2
  have hna := ((hSn.1 jz hj).2 na hns).1
  refine lv_astore_n (lv' := [(2, .ref (ad na)), (0, .ref (ad 0)), (1, .int (nI jz))]) hx hb dX4_goBack_10 rfl hl (by decide) rfl (fun ls hl => ?_)
  refine lv_aload_n hx hb dX4_goBack_11 rfl (lv_at hl 0 rfl) ?_
  refine lv_ifnonnull (tgt := 25) hx hb dX4_goBack_12 (by decide) ?_
  refine lv_aload_n hx hb dX4_goBack_25 rfl (lv_at hl 1 rfl) ?_
  refine z_get C0 hP hX.n0 hX.o fd_X4_19 rfl dX4_goBack_26 ?_
  refine lv_aload_n hx hb dX4_goBack_29 rfl (lv_at hl 1 rfl) ?_
  refine z_get C0 hP hX.n0 hX.o fd_X4_10 rfl dX4_goBack_30 ?_
  obtain ⟨fs_33, hfs_33⟩ := hHi.rc
  refine z_Vv_mo (As := [.ref (ad 1)]) (rest := []) C0 hP hS hl.1 (m_X2_save l _ hHi hH (by omega) hnx hsz) lk_X4_61 hHi.n0 hfs_33 rfl rfl (Nat.le_of_ble_eq_true rfl) ⟨Nat.le_of_ble_eq_true rfl, Nat.le_of_ble_eq_true rfl⟩ rfl rfl ⟨Nat.zero_le _, Nat.zero_le _⟩ dX4_goBack_33 (fun g_1 H locs hP hS hp => ?_)
  obtain ⟨hHi, hF1⟩ := hp
  have hX := hX.kept hF1 (by first | (dsimp only [zOne, zRg, zCl]; omega) | (dsimp only; omega) | omega)
  have hH := hH.kept hF1 (by intro z9 h8 h9; first | (dsimp only [zOne, zRg, zCl]; omega) | (dsimp only; omega) | omega)
  have hR := hR.kept hF1 (by first | (dsimp only [zOne, zRg, zCl]; omega) | (dsimp only; omega) | omega)
  have hTr := hTr.kept hF1 (by intro z9 h8 h9; first | (dsimp only [zOne, zRg, zCl]; omega) | (dsimp only; omega) | omega)
  have hSn := hSn.kept hF1 (by intro z9 h8; first | (dsimp only [zOne, zRg, zCl]; omega) | (dsimp only; omega) | omega)
  have hS2 := hS2.kept hF1 (by intro z9 h8 h9; first | (dsimp only [zOne, zRg, zCl]; omega) | (dsimp only; omega) | omega)
  have hFr := hFr.tr (hF1.mono (by intro x9 hx9; first | (dsimp only [zOne, zRg, zCl] at hx9 ⊢; omega) | (dsimp only at hx9 ⊢; omega) | omega))
  refine lv_aload_n hx hb dX4_goBack_36 rfl (lv_at hl 1 rfl) ?_
  refine z_get C0 hP hX.n0 hX.o fd_X4_10 rfl dX4_goBack_37 ?_
  refine lv_aload_n hx hb dX4_goBack_40 rfl (lv_at hl 0 rfl) ?_
  obtain ⟨fs_41, hfs_41⟩ := hH.rc
  refine z_Vv_mo (As := [.ref (ad na)]) (rest := []) C0 hP hS hl.1 (m_X1_copyFrom l _ hH hS2 (by omega)) lk_X4_134 hH.n0 hfs_41 rfl rfl (Nat.le_of_ble_eq_true rfl) ⟨Nat.le_of_ble_eq_true rfl, Nat.le_of_ble_eq_true rfl⟩ rfl rfl ⟨Nat.zero_le _, Nat.zero_le _⟩ dX4_goBack_41 (fun g_2 H locs hP hS hp => ?_)
  obtain ⟨hH, hF1⟩ := hp
  have hX := hX.kept hF1 (by first | (dsimp only [zOne, zRg, zCl]; omega) | (dsimp only; omega) | omega)
  have hHi := hHi.kept hF1 (by intro z9 h8 h9; first | (dsimp only [zOne, zRg, zCl]; omega) | (dsimp only; omega) | omega)
  have hR := hR.kept hF1 (by first | (dsimp only [zOne, zRg, zCl]; omega) | (dsimp only; omega) | omega)
  have hTr := hTr.kept hF1 (by intro z9 h8 h9; first | (dsimp only [zOne, zRg, zCl]; omega) | (dsimp only; omega) | omega)
  have hSn := hSn.kept hF1 (by intro z9 h8; first | (dsimp only [zOne, zRg, zCl]; omega) | (dsimp only; omega) | omega)
  have hS2 := hS2.kept hF1 (by intro z9 h8 h9; first | (dsimp only [zOne, zRg, zCl]; omega) | (dsimp only; omega) | omega)
  have hFr := hFr.tr (hF1.mono (by intro x9 hx9; first | (dsimp only [zOne, zRg, zCl] at hx9 ⊢; omega) | (dsimp only at hx9 ⊢; omega) | omega))
  refine lv_aload_n hx hb dX4_goBack_44 rfl (lv_at hl 1 rfl) ?_
  refine z_get C0 hP hX.n0 hX.o fd_X4_10 rfl dX4_goBack_45 ?_
  obtain ⟨fs_48, hfs_48⟩ := hH.rc
  refine z_Vi_eq (As := []) (rest := []) C0 hP hS hl.1 (m_X1_ties l _ hH) lk_X4_137 hH.n0 hfs_48 rfl rfl (Nat.le_of_ble_eq_true rfl) ⟨Nat.le_of_ble_eq_true rfl, Nat.le_of_ble_eq_true rfl⟩ rfl rfl ⟨Nat.zero_le _, Nat.zero_le _⟩ dX4_goBack_48 (fun H locs hP hS => ?_)
  exact z_iret C0 hP hS hr (⟨rfl, ⟨_, _, rs, _, hX, hH, hHi, hR, hTr, hSn⟩, hFr⟩) dX4_goBack_51
