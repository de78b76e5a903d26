set_option maxHeartbeats 4000000 in
set_option maxRecDepth 100000 in
theorem m_X2_save (l : Launch) {D : va_G} {cy : Nat → ClassId} {K : Nat} {ad : Nat → Nat} {g : Nat → va_E} (sz : Nat) {n mz nx sz2 : Nat} {sv : Nat → Nat → Int32} {st : Nat → Int32} (hHi : isHi cy K ad g n sv nx sz2) (hH : isH cy K ad g mz st) (hd : mz + 30 ≤ n ∨ n + 182 ≤ mz) (hnx : nx < 6) (hsz : sz2 ≤ 6) : Met l yX2_save (zs yX2_save cX2_save 2 none) ({ frames := 3, cells := 0, slots := 0, locals := 103 } : Room) (va_Pc [.ref (ad n), .ref (ad mz)] (zIn D cy K ad g sz)) (va_Qv (fun g1 => isHi cy K ad g1 n (va_up sv nx st) ((nx + 1) % 6) (min (sz2 + 1) 6) ∧ zFr (zRg n (n + 182)) g g1) (zOut D cy K ad sz) (zA K ad sz)) 0 0 (zA K ad sz) := by
  refine z_met (by decide) (Nat.le_of_ble_eq_true rfl) (fun p e s m below meth c ls hsz hl C0 hr hnm hP hS => ?_)
  subst hsz
  have hl : lv_has ls 2 [(0, .ref (ad n)), (1, .ref (ad mz))] := hl
  have hx := C0.1; have hb := C0.2.1; have hown := C0.2.2.2.1; have hts := C0.2.2.2.2.1
  have hFr : zFr (zRg n (n + 182)) g g := zFr.rf
  obtain ⟨rwY, hY, hrwY, hHa⟩ := hHi
  refine lv_aload_n hx hb dX2_save_0 rfl (lv_at hl 0 rfl) ?_
  refine z_get C0 hP hY.n0 hY.o fd_X2_11 rfl dX2_save_1 ?_
  refine lv_aload_n hx hb dX2_save_4 rfl (lv_at hl 0 rfl) ?_
  refine z_get C0 hP hY.n0 hY.o fd_X2_17 rfl dX2_save_5 ?_
  refine z_aald C0 hP hY.n1 hY.a_rw rfl (zIx_nI (by omega) (by decide)) (congrArg va_rf (hrwY nx hnx)) dX2_save_8 ?_
  refine lv_aload_n hx hb dX2_save_9 rfl (lv_at hl 1 rfl) ?_
  have hD := hHa nx hnx
  have hHa0 := hHa
  obtain ⟨fs_10, hfs_10⟩ := hD.rc
  refine z_Vv_mo (As := [.ref (ad mz)]) (rest := []) C0 hP hS hl.1 (m_X1_copyFrom l _ hD hH (by omega)) lk_X2_25 hD.n0 hfs_10 rfl rfl (Nat.le_of_ble_eq_true rfl) ⟨Nat.le_of_ble_eq_true rfl, Nat.le_of_ble_eq_true rfl⟩ rfl rfl ⟨Nat.zero_le _, Nat.zero_le _⟩ dX2_save_10 (fun g_1 H locs hP hS hp => ?_)
  obtain ⟨hD, hF1⟩ := hp
  have hH := hH.kept hF1 (by intro z9 h8 h9; first | (dsimp only [zOne, zRg]; omega) | (dsimp only; omega) | omega)
  have hY := hY.kept hF1 (by first | (dsimp only [zOne, zRg]; omega) | (dsimp only; omega) | omega)
  have hFr := hFr.tr (hF1.mono (by intro x9 hx9; first | (dsimp only [zOne, zRg] at hx9 ⊢; omega) | (dsimp only at hx9 ⊢; omega) | omega))
  have hHa := hHa0.put hnx hF1 hD
  refine lv_aload_n hx hb dX2_save_13 rfl (lv_at hl 0 rfl) ?_
  refine lv_aload_n hx hb dX2_save_14 rfl (lv_at hl 0 rfl) ?_
  refine z_get C0 hP hY.n0 hY.o fd_X2_17 rfl dX2_save_15 ?_
  refine lv_iconst (v := 1) hx hb dX2_save_18 (by decide) ?_
  refine lv_iadd hx hb dX2_save_19 ?_
  refine z_topi (y := nI (nx + 1)) (nI_1 _) ?_
  refine lv_bipush (v := 6) hx hb dX2_save_20 (by decide) ?_
  refine lv_irem hx hb dX2_save_22 (by decide) ?_
  refine z_topi (y := nI ((nx + 1) % 6)) (pk_rem (a := nx + 1) (d := 6) (by omega) (by decide) (by decide)) ?_
  refine zp_Y_nx C0 hP hS hY hFr (by first | rfl | (dsimp only [zOne, zRg]; omega) | (dsimp only; omega) | omega) fp_X2_17 dX2_save_23 (fun g_2 H locs hP hS hY hFr hF1 => ?_)
  have hH := hH.kept hF1 (by intro z9 h8 h9; first | (dsimp only [zOne, zRg]; omega) | (dsimp only; omega) | omega)
  have hHa := hHa.kept hF1 (by intro z9 h8 h9; first | (dsimp only [zOne, zRg]; omega) | (dsimp only; omega) | omega)
  refine lv_aload_n hx hb dX2_save_26 rfl (lv_at hl 0 rfl) ?_
  refine lv_aload_n hx hb dX2_save_27 rfl (lv_at hl 0 rfl) ?_
  refine z_get C0 hP hY.n0 hY.o fd_X2_21 rfl dX2_save_28 ?_
  refine lv_iconst (v := 1) hx hb dX2_save_31 (by decide) ?_
  refine lv_iadd hx hb dX2_save_32 ?_
  refine z_topi (y := nI (sz2 + 1)) (nI_1 _) ?_
  refine lv_bipush (v := 6) hx hb dX2_save_33 (by decide) ?_
  refine va_mmin hx hb (C0.2.2.1.trans hl.1.symm) hown (hts _ q302) (hts _ q303) (hts _ q14) (hts _ q304) (Nat.le_of_ble_eq_true rfl) (Nat.le_of_ble_eq_true rfl) (Nat.zero_le _) (Nat.zero_le _) dX2_save_35 ?_
  refine z_topi (y := nI (min (sz2 + 1) 6)) (zmin6 _ hsz) ?_
  refine zp_Y_sz C0 hP hS hY hFr (by first | rfl | (dsimp only [zOne, zRg]; omega) | (dsimp only; omega) | omega) fp_X2_21 dX2_save_38 (fun g_3 H locs hP hS hY hFr hF1 => ?_)
  have hH := hH.kept hF1 (by intro z9 h8 h9; first | (dsimp only [zOne, zRg]; omega) | (dsimp only; omega) | omega)
  have hHa := hHa.kept hF1 (by intro z9 h8 h9; first | (dsimp only [zOne, zRg]; omega) | (dsimp only; omega) | omega)
  exact z_vret C0 hP hS hr (⟨⟨rwY, hY, hrwY, hHa⟩, hFr⟩) dX2_save_41
set_option maxHeartbeats 4000000 in
set_option maxRecDepth 100000 in
theorem m_X2_restore (l : Launch) {D : va_G} {cy : Nat → ClassId} {K : Nat} {ad : Nat → Nat} {g : Nat → va_E} (sz : Nat) {n mz nx sz2 : Nat} {sv : Nat → Nat → Int32} {st : Nat → Int32} (hHi : isHi cy K ad g n sv nx (sz2 + 1)) (hH : isH cy K ad g mz st) (hd : mz + 30 ≤ n ∨ n + 182 ≤ mz) (hnx : nx < 6) (hsz : sz2 < 6) : Met l yX2_restore (zs yX2_restore cX2_restore 2 none) ({ frames := 3, cells := 0, slots := 0, locals := 103 } : Room) (va_Pc [.ref (ad n), .ref (ad mz)] (zIn D cy K ad g sz)) (va_Qv (fun g1 => isHi cy K ad g1 n sv ((nx + 5) % 6) sz2 ∧ isH cy K ad g1 mz (sv ((nx + 5) % 6)) ∧ zFr (fun z9 => z9 = n ∨ (mz ≤ z9 ∧ z9 < mz + 30)) g g1) (zOut D cy K ad sz) (zA K ad sz)) 0 0 (zA K ad sz) := by
  refine z_met (by decide) (Nat.le_of_ble_eq_true rfl) (fun p e s m below meth c ls hsz hl C0 hr hnm hP hS => ?_)
  subst hsz
  have hl : lv_has ls 2 [(0, .ref (ad n)), (1, .ref (ad mz))] := hl
  have hx := C0.1; have hb := C0.2.1; have hown := C0.2.2.2.1; have hts := C0.2.2.2.2.1
  have hFr : zFr (fun z9 => z9 = n ∨ (mz ≤ z9 ∧ z9 < mz + 30)) g g := zFr.rf
  obtain ⟨rwY, hY, hrwY, hHa⟩ := hHi
  refine lv_aload_n hx hb dX2_restore_0 rfl (lv_at hl 0 rfl) ?_
  refine z_get C0 hP hY.n0 hY.o fd_X2_21 rfl dX2_restore_1 ?_
  refine lv_if_le (tgt := 46) hx hb dX2_restore_4 (by decide) (fun c_4 => absurd c_4 (nI_nle (by omega) (by omega))) (fun c_4 => ?_)
  refine lv_aload_n hx hb dX2_restore_7 rfl (lv_at hl 0 rfl) ?_
  refine lv_dup hx hb dX2_restore_8 rfl ?_
  refine z_get C0 hP hY.n0 hY.o fd_X2_21 rfl dX2_restore_9 ?_
  refine lv_iconst (v := 1) hx hb dX2_restore_12 (by decide) ?_
  refine lv_isub hx hb dX2_restore_13 ?_
  refine z_topi (y := nI sz2) (nI_pred _) ?_
  refine zp_Y_sz C0 hP hS hY hFr (by first | rfl | (dsimp only [zOne, zRg]; omega) | (dsimp only; omega) | omega) fp_X2_21 dX2_restore_14 (fun g_1 H locs hP hS hY hFr hF1 => ?_)
  have hH := hH.kept hF1 (by intro z9 h8 h9; first | (dsimp only [zOne, zRg]; omega) | (dsimp only; omega) | omega)
  have hHa := hHa.kept hF1 (by intro z9 h8 h9; first | (dsimp only [zOne, zRg]; omega) | (dsimp only; omega) | omega)
  refine lv_aload_n hx hb dX2_restore_17 rfl (lv_at hl 0 rfl) ?_
  refine lv_aload_n hx hb dX2_restore_18 rfl (lv_at hl 0 rfl) ?_
  refine z_get C0 hP hY.n0 hY.o fd_X2_17 rfl dX2_restore_19 ?_
  refine lv_bipush (v := 6) hx hb dX2_restore_22 (by decide) ?_
  refine lv_iadd hx hb dX2_restore_24 ?_
  refine z_topi (y := nI (nx + 6)) (nI_add nx 6) ?_
  refine lv_iconst (v := 1) hx hb dX2_restore_25 (by decide) ?_
  refine lv_isub hx hb dX2_restore_26 ?_
  refine z_topi (y := nI (nx + 5)) (nI_pred (nx + 5)) ?_
  refine lv_bipush (v := 6) hx hb dX2_restore_27 (by decide) ?_
  refine lv_irem hx hb dX2_restore_29 (by decide) ?_
  refine z_topi (y := nI ((nx + 5) % 6)) (pk_rem (a := nx + 5) (d := 6) (by omega) (by decide) (by decide)) ?_
  refine zp_Y_nx C0 hP hS hY hFr (by first | rfl | (dsimp only [zOne, zRg]; omega) | (dsimp only; omega) | omega) fp_X2_17 dX2_restore_30 (fun g_2 H locs hP hS hY hFr hF1 => ?_)
  have hH := hH.kept hF1 (by intro z9 h8 h9; first | (dsimp only [zOne, zRg]; omega) | (dsimp only; omega) | omega)
  have hHa := hHa.kept hF1 (by intro z9 h8 h9; first | (dsimp only [zOne, zRg]; omega) | (dsimp only; omega) | omega)
  refine lv_aload_n hx hb dX2_restore_33 rfl (lv_at hl 1 rfl) ?_
  refine lv_aload_n hx hb dX2_restore_34 rfl (lv_at hl 0 rfl) ?_
  refine z_get C0 hP hY.n0 hY.o fd_X2_11 rfl dX2_restore_35 ?_
  refine lv_aload_n hx hb dX2_restore_38 rfl (lv_at hl 0 rfl) ?_
  refine z_get C0 hP hY.n0 hY.o fd_X2_17 rfl dX2_restore_39 ?_
  refine z_aald C0 hP hY.n1 hY.a_rw rfl (zIx_nI (Nat.mod_lt _ (by decide)) (by decide)) (congrArg va_rf (hrwY _ (Nat.mod_lt _ (by decide)))) dX2_restore_42 ?_
  have hD := hHa ((nx + 5) % 6) (Nat.mod_lt _ (by decide))
  obtain ⟨fs_43, hfs_43⟩ := hH.rc
  refine z_Vv_mo (As := [.ref (ad (n + 2 + 30 * ((nx + 5) % 6)))]) (rest := []) C0 hP hS hl.1 (m_X1_copyFrom l _ hH hD (by omega)) lk_X2_25 hH.n0 hfs_43 rfl rfl (Nat.le_of_ble_eq_true rfl) ⟨Nat.le_of_ble_eq_true rfl, Nat.le_of_ble_eq_true rfl⟩ rfl rfl ⟨Nat.zero_le _, Nat.zero_le _⟩ dX2_restore_43 (fun g_3 H locs hP hS hp => ?_)
  obtain ⟨hH, hF1⟩ := hp
  have hY := hY.kept hF1 (by first | (dsimp only [zOne, zRg]; omega) | (dsimp only; omega) | omega)
  have hHa := hHa.kept hF1 (by intro z9 h8 h9; first | (dsimp only [zOne, zRg]; omega) | (dsimp only; omega) | omega)
  have hD := hD.kept hF1 (by intro z9 h8 h9; first | (dsimp only [zOne, zRg]; omega) | (dsimp only; omega) | omega)
  have hFr := hFr.tr (hF1.mono (by intro x9 hx9; first | (dsimp only [zOne, zRg] at hx9 ⊢; omega) | (dsimp only at hx9 ⊢; omega) | omega))
  exact z_vret C0 hP hS hr (⟨⟨rwY, hY, hrwY, hHa⟩, hH, hFr⟩) dX2_restore_46
