set_option maxHeartbeats 4000000 in
set_option maxRecDepth 100000 in
theorem m_X2_save (l : Launch) {D : va_G} {cy : Nat → ClassId} {K : Nat} {ad : Nat → Nat} {g : Nat → va_E} (sz : Nat) {n mz nx sz2 : Nat} {sv : Nat → Nat → Int32} {st : Nat → Int32} (hHi : isHi cy K ad g n sv nx sz2) (hH : isH cy K ad g mz st) (hd : mz + 30 ≤ n ∨ n + 182 ≤ mz) (hnx : nx < 6) (hsz : sz2 ≤ 6) : Met l yX2_save (zs yX2_save cX2_save 2 none) ({ frames := 3, cells := 0, slots := 0, locals := 103 } : Room) (va_Pc [.ref (ad n), .ref (ad mz)] (zIn D cy K ad g sz)) (va_Qv (fun g1 => isHi cy K ad g1 n (va_up sv nx st) ((nx + 1) % 6) (min (sz2 + 1) 6) ∧ zFr (zRg n (n + 182)) g g1) (zOut D cy K ad sz) (zA K ad sz)) 0 0 (zA K ad sz) := by
  refine z_met (by decide) (Nat.le_of_ble_eq_true rfl) (fun p e s m below meth c ls hsz hl C0 hr hnm hP hS => ?_)
  subst hsz
  have hl : lv_has ls 2 [(0, .ref (ad n)), (1, .ref (ad mz))] := hl
  have hx := C0.1; have hb := C0.2.1; have hown := C0.2.2.2.1; have hts := C0.2.2.2.2.1
  have hFr : zFr (zRg n (n + 182)) g g := zFr.rf
  obtain ⟨rwY, hY, hrwY, hHa⟩ := hHi
  refine lv_aload_n hx hb dX2_save_0 rfl (lv_at hl 0 rfl) ?_
  refine z_get C0 hP hY.n0 hY.o fd_X2_11 rfl dX2_save_1 ?_
  refine lv_aload_n hx hb dX2_save_4 rfl (lv_at hl 0 rfl) ?_
  refine z_get C0 hP hY.n0 hY.o fd_X2_17 rfl dX2_save_5 ?_
  refine z_aald C0 hP hY.n1 hY.a_rw rfl (zIx_nI (by omega) (by decide)) (congrArg va_rf (hrwY nx hnx)) dX2_save_8 ?_
  refine lv_aload_n hx hb dX2_save_9 rfl (lv_at hl 1 rfl) ?_
  have hD := hHa nx hnx
  have hHa0 := hHa
  obtain ⟨fs_10, hfs_10⟩ := hD.rc
  refine z_Vv_mo (As := [.ref (ad mz)]) (rest := []) C0 hP hS hl.1 (m_X1_copyFrom l _ hD hH (by omega)) lk_X2_25 hD.n0 hfs_10 rfl rfl (Nat.le_of_ble_eq_true rfl) ⟨Nat.le_of_ble_eq_true rfl, Nat.le_of_ble_eq_true rfl⟩ rfl rfl ⟨Nat.zero_le _, Nat.zero_le _⟩ dX2_save_10 (fun g_1 H locs hP hS hp => ?_)
  obtain ⟨hD, hF1⟩ := hp
  have hH := hH.kept hF1 (by intro z9 h8 h9; first | (dsimp only [zOne, zRg]; omega) | (dsimp only; omega) | omega)
  have hY := hY.kept hF1 (by first | (dsimp only [zOne, zRg]; omega) | (dsimp only; omega) | omega)
  have hFr := hFr.tr (hF1.mono (by intro x9 hx9; first | (dsimp only [zOne, zRg] at hx9 ⊢; omega) | (dsimp only at hx9 ⊢; omega) | omega))
  have hHa := hHa0.put hnx hF1 hD
  refine lv_aload_n hx hb dX2_save_13 rfl (lv_at hl 0 rfl) ?_
  refine lv_aload_n hx hb dX2_save_14 rfl (lv_at hl 0 rfl) ?_
  refine z_get C0 hP hY.n0 hY.o fd_X2_17 rfl dX2_save_15 ?_
  refine lv_iconst (v := 1) hx hb dX2_save_18 (by decide) ?_
  refine lv_iadd hx hb dX2_save_19 ?_
  refine z_topi (y := nI (nx + 1)) (nI_1 _) ?_
  refine lv_bipush (v := 6) hx hb dX2_save_20 (by decide) ?_
  refine lv_irem hx hb dX2_save_22 (by decide) ?_
  refine z_topi (y := nI ((nx + 1) % 6)) (pk_rem (a := nx + 1) (d := 6) (by omega) (by decide) (by decide)) ?_
  refine zp_Y_nx C0 hP hS hY hFr (by first | rfl | (dsimp only [zOne, zRg]; omega) | (dsimp only; omega) | omega) fp_X2_17 dX2_save_23 (fun g_2 H locs hP hS hY hFr hF1 => ?_)
  have hH := hH.kept hF1 (by intro z9 h8 h9; first | (dsimp only [zOne, zRg]; omega) | (dsimp only; omega) | omega)
  have hHa := hHa.kept hF1 (by intro z9 h8 h9; first | (dsimp only [zOne, zRg]; omega) | (dsimp only; omega) | omega)
  refine lv_aload_n hx hb dX2_save_26 rfl (lv_at hl 0 rfl) ?_
  refine lv_aload_n hx hb dX2_save_27 rfl (lv_at hl 0 rfl) ?_
  refine z_get C0 hP hY.n0 hY.o fd_X2_21 rfl dX2_save_28 ?_
  refine lv_iconst (v := 1) hx hb dX2_save_31 (by decide) ?_
  refine lv_iadd hx hb dX2_save_32 ?_
  refine z_topi (y := nI (sz2 + 1)) (nI_1 _) ?_
  refine lv_bipush (v := 6) hx hb dX2_save_33 (by decide) ?_
  refine va_mmin hx hb (C0.2.2.1.trans hl.1.symm) hown (hts _ q580) (hts _ q581) (hts _ q64) (hts _ q582) (Nat.le_of_ble_eq_true rfl) (Nat.le_of_ble_eq_true rfl) (Nat.zero_le _) (Nat.zero_le _) dX2_save_35 ?_
  refine z_topi (y := nI (min (sz2 + 1) 6)) (zmin6 _ hsz) ?_
  refine zp_Y_sz C0 hP hS hY hFr (by first | rfl | (dsimp only [zOne, zRg]; omega) | (dsimp only; omega) | omega) fp_X2_21 dX2_save_38 (fun g_3 H locs hP hS hY hFr hF1 => ?_)
  have hH := hH.kept hF1 (by intro z9 h8 h9; first | (dsimp only [zOne, zRg]; omega) | (dsimp only; omega) | omega)
  have hHa := hHa.kept hF1 (by intro z9 h8 h9; first | (dsimp only [zOne, zRg]; omega) | (dsimp only; omega) | omega)
  exact z_vret C0 hP hS hr (⟨⟨rwY, hY, hrwY, hHa⟩, hFr⟩) dX2_save_41
set_option maxHeartbeats 4000000 in
set_option maxRecDepth 100000 in
theorem m_X2_restore (l : Launch) {D : va_G} {cy : Nat → ClassId} {K : Nat} {ad : Nat → Nat} {g : Nat → va_E} (sz : Nat) {n mz nx sz2 : Nat} {sv : Nat → Nat → Int32} {st : Nat → Int32} (hHi : isHi cy K ad g n sv nx (sz2 + 1)) (hH : isH cy K ad g mz st) (hd : mz + 30 ≤ n ∨ n + 182 ≤ mz) (hnx : nx < 6) (hsz : sz2 < 6) : Met l yX2_restore (zs yX2_restore cX2_restore 2 none) ({ frames := 3, cells := 0, slots := 0, locals := 103 } : Room) (va_Pc [.ref (ad n), .ref (ad mz)] (zIn D cy K ad g sz)) (va_Qv (fun g1 => isHi cy K ad g1 n sv ((nx + 5) % 6) sz2 ∧ isH cy K ad g1 mz (sv ((nx + 5) % 6)) ∧ zFr (fun z9 => z9 = n ∨ (mz ≤ z9 ∧ z9 < mz + 30)) g g1) (zOut D cy K ad sz) (zA K ad sz)) 0 0 (zA K ad sz) := by
  refine z_met (by decide) (Nat.le_of_ble_eq_true rfl) (fun p e s m below meth c ls hsz hl C0 hr hnm hP hS => ?_)
  subst hsz
  have hl : lv_has ls 2 [(0, .ref (ad n)), (1, .ref (ad mz))] := hl
  have hx := C0.1; have hb := C0.2.1; have hown := C0.2.2.2.1; have hts := C0.2.2.2.2.1
  have hFr : zFr (fun z9 => z9 = n ∨ (mz ≤ z9 ∧ z9 < mz + 30)) g g := zFr.rf
  obtain ⟨rwY, hY, hrwY, hHa⟩ := hHi
  refine lv_aload_n hx hb dX2_restore_0 rfl (lv_at hl 0 rfl) ?_
  refine z_get C0 hP hY.n0 hY.o fd_X2_21 rfl dX2_restore_1 ?_
  refine lv_if_le (tgt := 46) hx hb dX2_restore_4 (by decide) (fun c_4 => absurd c_4 (nI_nle (by omega) (by omega))) (fun c_4 => ?_)
  refine lv_aload_n hx hb dX2_restore_7 rfl (lv_at hl 0 rfl) ?_
  refine lv_dup hx hb dX2_restore_8 rfl ?_
  refine z_get C0 hP hY.n0 hY.o fd_X2_21 rfl dX2_restore_9 ?_
  refine lv_iconst (v := 1) hx hb dX2_restore_12 (by decide) ?_
  refine lv_isub hx hb dX2_restore_13 ?_
  refine z_topi (y := nI sz2) (nI_pred _) ?_
  refine zp_Y_sz C0 hP hS hY hFr (by first | rfl | (dsimp only [zOne, zRg]; omega) | (dsimp only; omega) | omega) fp_X2_21 dX2_restore_14 (fun g_1 H locs hP hS hY hFr hF1 => ?_)
  have hH := hH.kept hF1 (by intro z9 h8 h9; first | (dsimp only [zOne, zRg]; omega) | (dsimp only; omega) | omega)
  have hHa := hHa.kept hF1 (by intro z9 h8 h9; first | (dsimp only [zOne, zRg]; omega) | (dsimp only; omega) | omega)
  refine lv_aload_n hx hb dX2_restore_17 rfl (lv_at hl 0 rfl) ?_
  refine lv_aload_n hx hb dX2_restore_18 rfl (lv_at hl 0 rfl) ?_
  refine z_get C0 hP hY.n0 hY.o fd_X2_17 rfl dX2_restore_19 ?_
  refine lv_bipush (v := 6) hx hb dX2_restore_22 (by decide) ?_
  refine lv_iadd hx hb dX2_restore_24 ?_
  refine z_topi (y := nI (nx + 6)) (nI_add nx 6) ?_
  refine lv_iconst (v := 1) hx hb dX2_restore_25 (by decide) ?_
  refine lv_isub hx hb dX2_restore_26 ?_
  refine z_topi (y := nI (nx + 5)) (nI_pred (nx + 5)) ?_
  refine lv_bipush (v := 6) hx hb dX2_restore_27 (by decide) ?_
  refine lv_irem hx hb dX2_restore_29 (by decide) ?_
  refine z_topi (y := nI ((nx + 5) % 6)) (pk_rem (a := nx + 5) (d := 6) (by omega) (by decide) (by decide)) ?_
  refine zp_Y_nx C0 hP hS hY hFr (by first | rfl | (dsimp only [zOne, zRg]; omega) | (dsimp only; omega) | omega) fp_X2_17 dX2_restore_30 (fun g_2 H locs hP hS hY hFr hF1 => ?_)
  have hH := hH.kept hF1 (by intro z9 h8 h9; first | (dsimp only [zOne, zRg]; omega) | (dsimp only; omega) | omega)
  have hHa := hHa.kept hF1 (by intro z9 h8 h9; first | (dsimp only [zOne, zRg]; omega) | (dsimp only; omega) | omega)
  refine lv_aload_n hx hb dX2_restore_33 rfl (lv_at hl 1 rfl) ?_
  refine lv_aload_n hx hb dX2_restore_34 rfl (lv_at hl 0 rfl) ?_
  refine z_get C0 hP hY.n0 hY.o fd_X2_11 rfl dX2_restore_35 ?_
  refine lv_aload_n hx hb dX2_restore_38 rfl (lv_at hl 0 rfl) ?_
  refine z_get C0 hP hY.n0 hY.o fd_X2_17 rfl dX2_restore_39 ?_
  refine z_aald C0 hP hY.n1 hY.a_rw rfl (zIx_nI (Nat.mod_lt _ (by decide)) (by decide)) (congrArg va_rf (hrwY _ (Nat.mod_lt _ (by decide)))) dX2_restore_42 ?_
  have hD := hHa ((nx + 5) % 6) (Nat.mod_lt _ (by decide))
  obtain ⟨fs_43, hfs_43⟩ := hH.rc
  refine z_Vv_mo (As := [.ref (ad (n + 2 + 30 * ((nx + 5) % 6)))]) (rest := []) C0 hP hS hl.1 (m_X1_copyFrom l _ hH hD (by omega)) lk_X2_25 hH.n0 hfs_43 rfl rfl (Nat.le_of_ble_eq_true rfl) ⟨Nat.le_of_ble_eq_true rfl, Nat.le_of_ble_eq_true rfl⟩ rfl rfl ⟨Nat.zero_le _, Nat.zero_le _⟩ dX2_restore_43 (fun g_3 H locs hP hS hp => ?_)
  obtain ⟨hH, hF1⟩ := hp
  have hY := hY.kept hF1 (by first | (dsimp only [zOne, zRg]; omega) | (dsimp only; omega) | omega)
  have hHa := hHa.kept hF1 (by intro z9 h8 h9; first | (dsimp only [zOne, zRg]; omega) | (dsimp only; omega) | omega)
  have hD := hD.kept hF1 (by intro z9 h8 h9; first | (dsimp only [zOne, zRg]; omega) | (dsimp only; omega) | omega)
  have hFr := hFr.tr (hF1.mono (by intro x9 hx9; first | (dsimp only [zOne, zRg] at hx9 ⊢; omega) | (dsimp only at hx9 ⊢; omega) | omega))
  exact z_vret C0 hP hS hr (⟨⟨rwY, hY, hrwY, hHa⟩, hH, hFr⟩) dX2_restore_46
set_option maxHeartbeats 4000000 in
set_option maxRecDepth 100000 in
theorem m_X3_begin (l : Launch) {D : va_G} {cy : Nat → ClassId} {K : Nat} {ad : Nat → Nat} {g : Nat → va_E} (sz : Nat) {n : Nat} {st di co ki va : Int32} (hR : isR cy K ad g n st di co ki va) : Met l yX3_begin (zs yX3_begin cX3_begin 1 none) ({ frames := 0, cells := 0, slots := 0, locals := 0 } : Room) (va_Pc [.ref (ad n)] (zIn D cy K ad g sz)) (va_Qv (fun g1 => isR cy K ad g1 n 0 di co ki va ∧ zFr (zOne n) g g1) (zOut D cy K ad sz) (zA K ad sz)) 0 0 (zA K ad sz) := by
  refine z_met (by decide) (Nat.le_of_ble_eq_true rfl) (fun p e s m below meth c ls hsz hl C0 hr hnm hP hS => ?_)
  subst hsz
  have hl : lv_has ls 1 [(0, .ref (ad n))] := hl
  have hx := C0.1; have hb := C0.2.1; have hown := C0.2.2.2.1; have hts := C0.2.2.2.2.1
  have hFr : zFr (zOne n) g g := zFr.rf
  refine lv_aload_n hx hb dX3_begin_0 rfl (lv_at hl 0 rfl) ?_
  refine lv_iconst (v := 0) hx hb dX3_begin_1 (by decide) ?_
  refine zp_R_st C0 hP hS hR hFr (by first | rfl | (dsimp only [zOne, zRg]; omega) | (dsimp only; omega) | omega) fp_X3_11 dX3_begin_2 (fun g_1 H locs hP hS hR hFr hF1 => ?_)
  exact z_vret C0 hP hS hr (⟨hR, hFr⟩) dX3_begin_5
set_option maxHeartbeats 4000000 in
set_option maxRecDepth 100000 in
theorem m_X3_hasWholeOrder (l : Launch) {D : va_G} {cy : Nat → ClassId} {K : Nat} {ad : Nat → Nat} {g : Nat → va_E} (sz : Nat) {n : Nat} {st di co ki va : Int32} (hR : isR cy K ad g n st di co ki va) : Met l yX3_hasWholeOrder (zs yX3_hasWholeOrder cX3_hasWholeOrder 1 (some .boolean)) ({ frames := 0, cells := 0, slots := 0, locals := 0 } : Room) (va_Pc [.ref (ad n)] (zIn D cy K ad g sz)) (va_Qi (fun r g1 => g1 = g ∧ r = if st = 3 then 1 else 0) (zOut D cy K ad sz) (zA K ad sz)) 0 0 (zA K ad sz) := by
  refine z_met (by decide) (Nat.le_of_ble_eq_true rfl) (fun p e s m below meth c ls hsz hl C0 hr hnm hP hS => ?_)
  subst hsz
  have hl : lv_has ls 1 [(0, .ref (ad n))] := hl
  have hx := C0.1; have hb := C0.2.1; have hown := C0.2.2.2.1; have hts := C0.2.2.2.2.1
  refine lv_aload_n hx hb dX3_hasWholeOrder_0 rfl (lv_at hl 0 rfl) ?_
  refine z_get C0 hP hR.n0 hR.o fd_X3_11 rfl dX3_hasWholeOrder_1 ?_
  refine lv_iconst (v := 3) hx hb dX3_hasWholeOrder_4 (by decide) ?_
  refine lv_icmp_ne (tgt := 12) hx hb dX3_hasWholeOrder_5 (by decide) (fun c_5 => ?_) (fun c_5 => ?_)
  · refine lv_iconst (v := 0) hx hb dX3_hasWholeOrder_12 (by decide) ?_
    exact z_zret C0 hP hS hr rfl (⟨rfl, (if_neg c_5).symm⟩) dX3_hasWholeOrder_13
  · refine lv_iconst (v := 1) hx hb dX3_hasWholeOrder_8 (by decide) ?_
    refine lv_goto (tgt := 13) hx hb dX3_hasWholeOrder_9 (by decide) ?_
    exact z_zret C0 hP hS hr rfl (⟨rfl, (if_pos c_5).symm⟩) dX3_hasWholeOrder_13
set_option maxHeartbeats 4000000 in
set_option maxRecDepth 100000 in
theorem m_X3_takesCord (l : Launch) {D : va_G} {cy : Nat → ClassId} {K : Nat} {ad : Nat → Nat} {g : Nat → va_E} (sz : Nat) {n : Nat} {st di co ki va : Int32} {dz : Int32} (hR : isR cy K ad g n st di co ki va) : Met l yX3_takesCord (zs yX3_takesCord cX3_takesCord 2 (some .boolean)) ({ frames := 0, cells := 0, slots := 0, locals := 0 } : Room) (va_Pc [.ref (ad n), .int dz] (zIn D cy K ad g sz)) (va_Qi (fun r g1 => rdPost cy K ad n (st, di, co, ki, va) (if 0 ≤ dz ∧ dz < 7 then some (1, di, dz, ki, va) else none) r g1 ∧ zFr (zOne n) g g1) (zOut D cy K ad sz) (zA K ad sz)) 0 0 (zA K ad sz) := by
  refine z_met (by decide) (Nat.le_of_ble_eq_true rfl) (fun p e s m below meth c ls hsz hl C0 hr hnm hP hS => ?_)
  subst hsz
  have hl : lv_has ls 2 [(0, .ref (ad n)), (1, .int dz)] := hl
  have hx := C0.1; have hb := C0.2.1; have hown := C0.2.2.2.1; have hts := C0.2.2.2.2.1
  have hFr : zFr (zOne n) g g := zFr.rf
  refine lv_iload_n hx hb dX3_takesCord_0 rfl (lv_at hl 1 rfl) ?_
  refine lv_if_lt (tgt := 10) hx hb dX3_takesCord_1 (by decide) (fun c_1 => ?_) (fun c_1 => ?_)
  · have hq : ¬ (0 ≤ dz ∧ dz < 7) := fun q => absurd c_1 (Int32.not_lt.mpr q.1)
    refine lv_iconst (v := 0) hx hb dX3_takesCord_10 (by decide) ?_
    exact z_zret C0 hP hS hr rfl (⟨Or.inr ⟨if_neg hq, rfl, hR⟩, hFr⟩) dX3_takesCord_11
  · refine lv_iload_n hx hb dX3_takesCord_4 rfl (lv_at hl 1 rfl) ?_
    refine lv_bipush (v := 7) hx hb dX3_takesCord_5 (by decide) ?_
    refine lv_icmp_lt (tgt := 12) hx hb dX3_takesCord_7 (by decide) (fun c_7 => ?_) (fun c_7 => ?_)
    · have hq : 0 ≤ dz ∧ dz < 7 := ⟨Int32.not_lt.mp c_1, c_7⟩
      refine lv_aload_n hx hb dX3_takesCord_12 rfl (lv_at hl 0 rfl) ?_
      refine lv_iload_n hx hb dX3_takesCord_13 rfl (lv_at hl 1 rfl) ?_
      refine zp_R_co C0 hP hS hR hFr (by first | rfl | (dsimp only [zOne, zRg]; omega) | (dsimp only; omega) | omega) fp_X3_18 dX3_takesCord_14 (fun g_1 H locs hP hS hR hFr hF1 => ?_)
      refine lv_aload_n hx hb dX3_takesCord_17 rfl (lv_at hl 0 rfl) ?_
      refine lv_iconst (v := 1) hx hb dX3_takesCord_18 (by decide) ?_
      refine zp_R_st C0 hP hS hR hFr (by first | rfl | (dsimp only [zOne, zRg]; omega) | (dsimp only; omega) | omega) fp_X3_11 dX3_takesCord_19 (fun g_2 H locs hP hS hR hFr hF1 => ?_)
      refine lv_iconst (v := 1) hx hb dX3_takesCord_22 (by decide) ?_
      exact z_zret C0 hP hS hr rfl (⟨Or.inl ⟨_, if_pos hq, rfl, hR⟩, hFr⟩) dX3_takesCord_23
    · have hq : ¬ (0 ≤ dz ∧ dz < 7) := fun q => absurd q.2 c_7
      refine lv_iconst (v := 0) hx hb dX3_takesCord_10 (by decide) ?_
      exact z_zret C0 hP hS hr rfl (⟨Or.inr ⟨if_neg hq, rfl, hR⟩, hFr⟩) dX3_takesCord_11
set_option maxHeartbeats 4000000 in
set_option maxRecDepth 100000 in
theorem m_X3_takesKind (l : Launch) {D : va_G} {cy : Nat → ClassId} {K : Nat} {ad : Nat → Nat} {g : Nat → va_E} (sz : Nat) {n : Nat} {st di co ki va : Int32} {cz : Int32} (hR : isR cy K ad g n st di co ki va) (hcz : narrow .char (.int cz) = .int cz) (hcy : fits .char (.int cz) = true) : Met l yX3_takesKind (zs yX3_takesKind cX3_takesKind 2 (some .boolean)) ({ frames := 0, cells := 0, slots := 0, locals := 0 } : Room) (va_Pc [.ref (ad n), .int cz] (zIn D cy K ad g sz)) (va_Qi (fun r g1 => rdPost cy K ad n (st, di, co, ki, va) (if cz = 43 ∨ cz = 62 ∨ cz = 126 then some (2, di, co, cz, va) else none) r g1 ∧ zFr (zOne n) g g1) (zOut D cy K ad sz) (zA K ad sz)) 0 0 (zA K ad sz) := by
  refine z_met (by decide) (Nat.le_of_ble_eq_true rfl) (fun p e s m below meth c ls hsz hl C0 hr hnm hP hS => ?_)
  subst hsz
  have hl : lv_has ls 2 [(0, .ref (ad n)), (1, .int cz)] := hl
  have hx := C0.1; have hb := C0.2.1; have hown := C0.2.2.2.1; have hts := C0.2.2.2.2.1
  have hFr : zFr (zOne n) g g := zFr.rf
  refine lv_iload_n hx hb dX3_takesKind_0 rfl (lv_at hl 1 rfl) ?_
  refine lv_bipush (v := 43) hx hb dX3_takesKind_1 (by decide) ?_
  refine lv_icmp_eq (tgt := 20) hx hb dX3_takesKind_3 (by decide) (fun c_3 => ?_) (fun c_3 => ?_)
  · have hq : cz = 43 ∨ cz = 62 ∨ cz = 126 := Or.inl c_3
    refine lv_aload_n hx hb dX3_takesKind_20 rfl (lv_at hl 0 rfl) ?_
    refine lv_iload_n hx hb dX3_takesKind_21 rfl (lv_at hl 1 rfl) ?_
    refine zp_R_ki C0 hP hS hR hFr (by first | rfl | (dsimp only [zOne, zRg]; omega) | (dsimp only; omega) | omega) fp_X3_21 hcz hcy dX3_takesKind_22 (fun g_1 H locs hP hS hR hFr hF1 => ?_)
    refine lv_aload_n hx hb dX3_takesKind_25 rfl (lv_at hl 0 rfl) ?_
    refine lv_iconst (v := 2) hx hb dX3_takesKind_26 (by decide) ?_
    refine zp_R_st C0 hP hS hR hFr (by first | rfl | (dsimp only [zOne, zRg]; omega) | (dsimp only; omega) | omega) fp_X3_11 dX3_takesKind_27 (fun g_2 H locs hP hS hR hFr hF1 => ?_)
    refine lv_iconst (v := 1) hx hb dX3_takesKind_30 (by decide) ?_
    exact z_zret C0 hP hS hr rfl (⟨Or.inl ⟨_, if_pos hq, rfl, hR⟩, hFr⟩) dX3_takesKind_31
  · refine lv_iload_n hx hb dX3_takesKind_6 rfl (lv_at hl 1 rfl) ?_
    refine lv_bipush (v := 62) hx hb dX3_takesKind_7 (by decide) ?_
    refine lv_icmp_eq (tgt := 20) hx hb dX3_takesKind_9 (by decide) (fun c_9 => ?_) (fun c_9 => ?_)
    · have hq : cz = 43 ∨ cz = 62 ∨ cz = 126 := Or.inr (Or.inl c_9)
      refine lv_aload_n hx hb dX3_takesKind_20 rfl (lv_at hl 0 rfl) ?_
      refine lv_iload_n hx hb dX3_takesKind_21 rfl (lv_at hl 1 rfl) ?_
      refine zp_R_ki C0 hP hS hR hFr (by first | rfl | (dsimp only [zOne, zRg]; omega) | (dsimp only; omega) | omega) fp_X3_21 hcz hcy dX3_takesKind_22 (fun g_3 H locs hP hS hR hFr hF1 => ?_)
      refine lv_aload_n hx hb dX3_takesKind_25 rfl (lv_at hl 0 rfl) ?_
      refine lv_iconst (v := 2) hx hb dX3_takesKind_26 (by decide) ?_
      refine zp_R_st C0 hP hS hR hFr (by first | rfl | (dsimp only [zOne, zRg]; omega) | (dsimp only; omega) | omega) fp_X3_11 dX3_takesKind_27 (fun g_4 H locs hP hS hR hFr hF1 => ?_)
      refine lv_iconst (v := 1) hx hb dX3_takesKind_30 (by decide) ?_
      exact z_zret C0 hP hS hr rfl (⟨Or.inl ⟨_, if_pos hq, rfl, hR⟩, hFr⟩) dX3_takesKind_31
    · refine lv_iload_n hx hb dX3_takesKind_12 rfl (lv_at hl 1 rfl) ?_
      refine lv_bipush (v := 126) hx hb dX3_takesKind_13 (by decide) ?_
      refine lv_icmp_eq (tgt := 20) hx hb dX3_takesKind_15 (by decide) (fun c_15 => ?_) (fun c_15 => ?_)
      · have hq : cz = 43 ∨ cz = 62 ∨ cz = 126 := Or.inr (Or.inr c_15)
        refine lv_aload_n hx hb dX3_takesKind_20 rfl (lv_at hl 0 rfl) ?_
        refine lv_iload_n hx hb dX3_takesKind_21 rfl (lv_at hl 1 rfl) ?_
        refine zp_R_ki C0 hP hS hR hFr (by first | rfl | (dsimp only [zOne, zRg]; omega) | (dsimp only; omega) | omega) fp_X3_21 hcz hcy dX3_takesKind_22 (fun g_5 H locs hP hS hR hFr hF1 => ?_)
        refine lv_aload_n hx hb dX3_takesKind_25 rfl (lv_at hl 0 rfl) ?_
        refine lv_iconst (v := 2) hx hb dX3_takesKind_26 (by decide) ?_
        refine zp_R_st C0 hP hS hR hFr (by first | rfl | (dsimp only [zOne, zRg]; omega) | (dsimp only; omega) | omega) fp_X3_11 dX3_takesKind_27 (fun g_6 H locs hP hS hR hFr hF1 => ?_)
        refine lv_iconst (v := 1) hx hb dX3_takesKind_30 (by decide) ?_
        exact z_zret C0 hP hS hr rfl (⟨Or.inl ⟨_, if_pos hq, rfl, hR⟩, hFr⟩) dX3_takesKind_31
      · have hq : ¬ (cz = 43 ∨ cz = 62 ∨ cz = 126) := fun q => q.elim c_3 (fun q => q.elim c_9 c_15)
        refine lv_iconst (v := 0) hx hb dX3_takesKind_18 (by decide) ?_
        exact z_zret C0 hP hS hr rfl (⟨Or.inr ⟨if_neg hq, rfl, hR⟩, hFr⟩) dX3_takesKind_19
set_option maxHeartbeats 4000000 in
set_option maxRecDepth 100000 in
theorem m_X3_mayBeginValue (l : Launch) {D : va_G} {cy : Nat → ClassId} {K : Nat} {ad : Nat → Nat} {g : Nat → va_E} (sz : Nat) {n : Nat} {st di co ki va : Int32} {dz : Int32} (hR : isR cy K ad g n st di co ki va) : Met l yX3_mayBeginValue (zs yX3_mayBeginValue cX3_mayBeginValue 2 (some .boolean)) ({ frames := 0, cells := 0, slots := 0, locals := 0 } : Room) (va_Pc [.ref (ad n), .int dz] (zIn D cy K ad g sz)) (va_Qi (fun r g1 => g1 = g ∧ (r = 1 ∧ mayB ki co dz ∨ r = 0 ∧ ¬ mayB ki co dz)) (zOut D cy K ad sz) (zA K ad sz)) 0 0 (zA K ad sz) := by
  refine z_met (by decide) (Nat.le_of_ble_eq_true rfl) (fun p e s m below meth c ls hsz hl C0 hr hnm hP hS => ?_)
  subst hsz
  have hl : lv_has ls 2 [(0, .ref (ad n)), (1, .int dz)] := hl
  have hx := C0.1; have hb := C0.2.1; have hown := C0.2.2.2.1; have hts := C0.2.2.2.2.1
  refine lv_aload_n hx hb dX3_mayBeginValue_0 rfl (lv_at hl 0 rfl) ?_
  refine z_get C0 hP hR.n0 hR.o fd_X3_21 rfl dX3_mayBeginValue_1 ?_
  refine lv_bipush (v := 43) hx hb dX3_mayBeginValue_4 (by decide) ?_
  refine lv_icmp_ne (tgt := 26) hx hb dX3_mayBeginValue_6 (by decide) (fun c_6 => ?_) (fun c_6 => ?_)
  · refine lv_aload_n hx hb dX3_mayBeginValue_26 rfl (lv_at hl 0 rfl) ?_
    refine z_get C0 hP hR.n0 hR.o fd_X3_21 rfl dX3_mayBeginValue_27 ?_
    refine lv_bipush (v := 62) hx hb dX3_mayBeginValue_30 (by decide) ?_
    refine lv_icmp_ne (tgt := 59) hx hb dX3_mayBeginValue_32 (by decide) (fun c_32 => ?_) (fun c_32 => ?_)
    · refine lv_iload_n hx hb dX3_mayBeginValue_59 rfl (lv_at hl 1 rfl) ?_
      refine lv_if_lt (tgt := 73) hx hb dX3_mayBeginValue_60 (by decide) (fun c_60 => ?_) (fun c_60 => ?_)
      · refine lv_iconst (v := 0) hx hb dX3_mayBeginValue_73 (by decide) ?_
        exact z_zret C0 hP hS hr rfl (⟨rfl, by first | exact Or.inl ⟨rfl, Or.inr (Or.inr ⟨c_6, c_32, Int32.not_lt.mp c_60, Int32.not_le.mp c_66⟩)⟩ | exact Or.inr ⟨rfl, fun q => q.elim (fun q => c_6 q.1) (fun q => q.elim (fun q => c_32 q.2.1) (fun q => by first | exact absurd c_60 (Int32.not_lt.mpr q.2.2.1) | exact absurd c_66 (Int32.not_le.mpr q.2.2.2)))⟩⟩) dX3_mayBeginValue_74
      · refine lv_iload_n hx hb dX3_mayBeginValue_63 rfl (lv_at hl 1 rfl) ?_
        refine lv_bipush (v := 6) hx hb dX3_mayBeginValue_64 (by decide) ?_
        refine lv_icmp_ge (tgt := 73) hx hb dX3_mayBeginValue_66 (by decide) (fun c_66 => ?_) (fun c_66 => ?_)
        · refine lv_iconst (v := 0) hx hb dX3_mayBeginValue_73 (by decide) ?_
          exact z_zret C0 hP hS hr rfl (⟨rfl, by first | exact Or.inl ⟨rfl, Or.inr (Or.inr ⟨c_6, c_32, Int32.not_lt.mp c_60, Int32.not_le.mp c_66⟩)⟩ | exact Or.inr ⟨rfl, fun q => q.elim (fun q => c_6 q.1) (fun q => q.elim (fun q => c_32 q.2.1) (fun q => by first | exact absurd c_60 (Int32.not_lt.mpr q.2.2.1) | exact absurd c_66 (Int32.not_le.mpr q.2.2.2)))⟩⟩) dX3_mayBeginValue_74
        · refine lv_iconst (v := 1) hx hb dX3_mayBeginValue_69 (by decide) ?_
          refine lv_goto (tgt := 74) hx hb dX3_mayBeginValue_70 (by decide) ?_
          exact z_zret C0 hP hS hr rfl (⟨rfl, by first | exact Or.inl ⟨rfl, Or.inr (Or.inr ⟨c_6, c_32, Int32.not_lt.mp c_60, Int32.not_le.mp c_66⟩)⟩ | exact Or.inr ⟨rfl, fun q => q.elim (fun q => c_6 q.1) (fun q => q.elim (fun q => c_32 q.2.1) (fun q => by first | exact absurd c_60 (Int32.not_lt.mpr q.2.2.1) | exact absurd c_66 (Int32.not_le.mpr q.2.2.2)))⟩⟩) dX3_mayBeginValue_74
    · refine lv_iload_n hx hb dX3_mayBeginValue_35 rfl (lv_at hl 1 rfl) ?_
      refine lv_if_lt (tgt := 57) hx hb dX3_mayBeginValue_36 (by decide) (fun c_36 => ?_) (fun c_36 => ?_)
      · refine lv_iconst (v := 0) hx hb dX3_mayBeginValue_57 (by decide) ?_
        exact z_zret C0 hP hS hr rfl (⟨rfl, by first | exact Or.inl ⟨rfl, Or.inr (Or.inl ⟨c_6, c_32, Int32.not_lt.mp c_36, Int32.not_le.mp c_42, c_50⟩)⟩ | exact Or.inr ⟨rfl, fun q => q.elim (fun q => c_6 q.1) (fun q => q.elim (fun q => by first | exact absurd c_36 (Int32.not_lt.mpr q.2.2.1) | exact absurd c_42 (Int32.not_le.mpr q.2.2.2.1) | exact q.2.2.2.2 c_50) (fun q => q.2.1 c_32))⟩⟩) dX3_mayBeginValue_58
      · refine lv_iload_n hx hb dX3_mayBeginValue_39 rfl (lv_at hl 1 rfl) ?_
        refine lv_bipush (v := 7) hx hb dX3_mayBeginValue_40 (by decide) ?_
        refine lv_icmp_ge (tgt := 57) hx hb dX3_mayBeginValue_42 (by decide) (fun c_42 => ?_) (fun c_42 => ?_)
        · refine lv_iconst (v := 0) hx hb dX3_mayBeginValue_57 (by decide) ?_
          exact z_zret C0 hP hS hr rfl (⟨rfl, by first | exact Or.inl ⟨rfl, Or.inr (Or.inl ⟨c_6, c_32, Int32.not_lt.mp c_36, Int32.not_le.mp c_42, c_50⟩)⟩ | exact Or.inr ⟨rfl, fun q => q.elim (fun q => c_6 q.1) (fun q => q.elim (fun q => by first | exact absurd c_36 (Int32.not_lt.mpr q.2.2.1) | exact absurd c_42 (Int32.not_le.mpr q.2.2.2.1) | exact q.2.2.2.2 c_50) (fun q => q.2.1 c_32))⟩⟩) dX3_mayBeginValue_58
        · refine lv_iload_n hx hb dX3_mayBeginValue_45 rfl (lv_at hl 1 rfl) ?_
          refine lv_aload_n hx hb dX3_mayBeginValue_46 rfl (lv_at hl 0 rfl) ?_
          refine z_get C0 hP hR.n0 hR.o fd_X3_18 rfl dX3_mayBeginValue_47 ?_
          refine lv_icmp_eq (tgt := 57) hx hb dX3_mayBeginValue_50 (by decide) (fun c_50 => ?_) (fun c_50 => ?_)
          · refine lv_iconst (v := 0) hx hb dX3_mayBeginValue_57 (by decide) ?_
            exact z_zret C0 hP hS hr rfl (⟨rfl, by first | exact Or.inl ⟨rfl, Or.inr (Or.inl ⟨c_6, c_32, Int32.not_lt.mp c_36, Int32.not_le.mp c_42, c_50⟩)⟩ | exact Or.inr ⟨rfl, fun q => q.elim (fun q => c_6 q.1) (fun q => q.elim (fun q => by first | exact absurd c_36 (Int32.not_lt.mpr q.2.2.1) | exact absurd c_42 (Int32.not_le.mpr q.2.2.2.1) | exact q.2.2.2.2 c_50) (fun q => q.2.1 c_32))⟩⟩) dX3_mayBeginValue_58
          · refine lv_iconst (v := 1) hx hb dX3_mayBeginValue_53 (by decide) ?_
            refine lv_goto (tgt := 58) hx hb dX3_mayBeginValue_54 (by decide) ?_
            exact z_zret C0 hP hS hr rfl (⟨rfl, by first | exact Or.inl ⟨rfl, Or.inr (Or.inl ⟨c_6, c_32, Int32.not_lt.mp c_36, Int32.not_le.mp c_42, c_50⟩)⟩ | exact Or.inr ⟨rfl, fun q => q.elim (fun q => c_6 q.1) (fun q => q.elim (fun q => by first | exact absurd c_36 (Int32.not_lt.mpr q.2.2.1) | exact absurd c_42 (Int32.not_le.mpr q.2.2.2.1) | exact q.2.2.2.2 c_50) (fun q => q.2.1 c_32))⟩⟩) dX3_mayBeginValue_58
  · refine lv_iload_n hx hb dX3_mayBeginValue_9 rfl (lv_at hl 1 rfl) ?_
    refine lv_iconst (v := 1) hx hb dX3_mayBeginValue_10 (by decide) ?_
    refine lv_icmp_lt (tgt := 24) hx hb dX3_mayBeginValue_11 (by decide) (fun c_11 => ?_) (fun c_11 => ?_)
    · refine lv_iconst (v := 0) hx hb dX3_mayBeginValue_24 (by decide) ?_
      exact z_zret C0 hP hS hr rfl (⟨rfl, by first | exact Or.inl ⟨rfl, Or.inl ⟨c_6, Int32.not_lt.mp c_11, Int32.not_lt.mp c_17⟩⟩ | exact Or.inr ⟨rfl, fun q => q.elim (fun q => by first | exact absurd c_11 (Int32.not_lt.mpr q.2.1) | exact absurd c_17 (Int32.not_lt.mpr q.2.2)) (fun q => q.elim (fun q => q.1 c_6) (fun q => q.1 c_6))⟩⟩) dX3_mayBeginValue_25
    · refine lv_iload_n hx hb dX3_mayBeginValue_14 rfl (lv_at hl 1 rfl) ?_
      refine lv_bipush (v := 9) hx hb dX3_mayBeginValue_15 (by decide) ?_
      refine lv_icmp_gt (tgt := 24) hx hb dX3_mayBeginValue_17 (by decide) (fun c_17 => ?_) (fun c_17 => ?_)
      · refine lv_iconst (v := 0) hx hb dX3_mayBeginValue_24 (by decide) ?_
        exact z_zret C0 hP hS hr rfl (⟨rfl, by first | exact Or.inl ⟨rfl, Or.inl ⟨c_6, Int32.not_lt.mp c_11, Int32.not_lt.mp c_17⟩⟩ | exact Or.inr ⟨rfl, fun q => q.elim (fun q => by first | exact absurd c_11 (Int32.not_lt.mpr q.2.1) | exact absurd c_17 (Int32.not_lt.mpr q.2.2)) (fun q => q.elim (fun q => q.1 c_6) (fun q => q.1 c_6))⟩⟩) dX3_mayBeginValue_25
      · refine lv_iconst (v := 1) hx hb dX3_mayBeginValue_20 (by decide) ?_
        refine lv_goto (tgt := 25) hx hb dX3_mayBeginValue_21 (by decide) ?_
        exact z_zret C0 hP hS hr rfl (⟨rfl, by first | exact Or.inl ⟨rfl, Or.inl ⟨c_6, Int32.not_lt.mp c_11, Int32.not_lt.mp c_17⟩⟩ | exact Or.inr ⟨rfl, fun q => q.elim (fun q => by first | exact absurd c_11 (Int32.not_lt.mpr q.2.1) | exact absurd c_17 (Int32.not_lt.mpr q.2.2)) (fun q => q.elim (fun q => q.1 c_6) (fun q => q.1 c_6))⟩⟩) dX3_mayBeginValue_25
set_option maxHeartbeats 4000000 in
set_option maxRecDepth 100000 in
theorem m_X3_takesValue (l : Launch) {D : va_G} {cy : Nat → ClassId} {K : Nat} {ad : Nat → Nat} {g : Nat → va_E} (sz : Nat) {n : Nat} {st di co ki va : Int32} {dz : Int32} (hR : isR cy K ad g n st di co ki va) : Met l yX3_takesValue (zs yX3_takesValue cX3_takesValue 2 (some .boolean)) ({ frames := 1, cells := 0, slots := 0, locals := 21 } : Room) (va_Pc [.ref (ad n), .int dz] (zIn D cy K ad g sz)) (va_Qi (fun r g1 => rdPost cy K ad n (st, di, co, ki, va) (if mayB ki co dz then some (3, 1, co, ki, dz) else none) r g1 ∧ zFr (zOne n) g g1) (zOut D cy K ad sz) (zA K ad sz)) 0 0 (zA K ad sz) := by
  refine z_met (by decide) (Nat.le_of_ble_eq_true rfl) (fun p e s m below meth c ls hsz hl C0 hr hnm hP hS => ?_)
  subst hsz
  have hl : lv_has ls 2 [(0, .ref (ad n)), (1, .int dz)] := hl
  have hx := C0.1; have hb := C0.2.1; have hown := C0.2.2.2.1; have hts := C0.2.2.2.2.1
  have hFr : zFr (zOne n) g g := zFr.rf
  refine lv_aload_n hx hb dX3_takesValue_0 rfl (lv_at hl 0 rfl) ?_
  refine lv_iload_n hx hb dX3_takesValue_1 rfl (lv_at hl 1 rfl) ?_
  refine z_Vi_ro (As := [.int dz]) (rest := []) C0 hP hS hl.1 (m_X3_mayBeginValue l _ hR) lk_X3_46 hR.n0 hR.o rfl rfl (Nat.le_of_ble_eq_true rfl) ⟨Nat.le_of_ble_eq_true rfl, Nat.le_of_ble_eq_true rfl⟩ rfl rfl ⟨Nat.zero_le _, Nat.zero_le _⟩ dX3_takesValue_2 (fun r_2 H locs hP hS h_2 => ?_)
  refine lv_if_ne (tgt := 10) hx hb dX3_takesValue_5 (by decide) (fun c_5 => ?_) (fun c_5 => ?_)
  · have hq : mayB ki co dz := h_2.elim (fun q => q.2) (fun q => absurd q.1 c_5)
    refine lv_aload_n hx hb dX3_takesValue_10 rfl (lv_at hl 0 rfl) ?_
    refine lv_iload_n hx hb dX3_takesValue_11 rfl (lv_at hl 1 rfl) ?_
    refine zp_R_va C0 hP hS hR hFr (by first | rfl | (dsimp only [zOne, zRg]; omega) | (dsimp only; omega) | omega) fp_X3_25 dX3_takesValue_12 (fun g_1 H locs hP hS hR hFr hF1 => ?_)
    refine lv_aload_n hx hb dX3_takesValue_15 rfl (lv_at hl 0 rfl) ?_
    refine lv_iconst (v := 1) hx hb dX3_takesValue_16 (by decide) ?_
    refine zp_R_di C0 hP hS hR hFr (by first | rfl | (dsimp only [zOne, zRg]; omega) | (dsimp only; omega) | omega) fp_X3_15 dX3_takesValue_17 (fun g_2 H locs hP hS hR hFr hF1 => ?_)
    refine lv_aload_n hx hb dX3_takesValue_20 rfl (lv_at hl 0 rfl) ?_
    refine lv_iconst (v := 3) hx hb dX3_takesValue_21 (by decide) ?_
    refine zp_R_st C0 hP hS hR hFr (by first | rfl | (dsimp only [zOne, zRg]; omega) | (dsimp only; omega) | omega) fp_X3_11 dX3_takesValue_22 (fun g_3 H locs hP hS hR hFr hF1 => ?_)
    refine lv_iconst (v := 1) hx hb dX3_takesValue_25 (by decide) ?_
    exact z_zret C0 hP hS hr rfl (⟨Or.inl ⟨_, if_pos hq, rfl, hR⟩, hFr⟩) dX3_takesValue_26
  · have hq : ¬ mayB ki co dz := h_2.elim (fun q => absurd (q.1.symm.trans c_5) (by decide)) (fun q => q.2)
    refine lv_iconst (v := 0) hx hb dX3_takesValue_8 (by decide) ?_
    exact z_zret C0 hP hS hr rfl (⟨Or.inr ⟨if_neg hq, rfl, hR⟩, hFr⟩) dX3_takesValue_9
set_option maxHeartbeats 4000000 in
set_option maxRecDepth 100000 in
theorem m_X3_takesBetween (l : Launch) {D : va_G} {cy : Nat → ClassId} {K : Nat} {ad : Nat → Nat} {g : Nat → va_E} (sz : Nat) {n : Nat} {st di co ki va : Int32} (hR : isR cy K ad g n st di co ki va) : Met l yX3_takesBetween (zs yX3_takesBetween cX3_takesBetween 1 (some .boolean)) ({ frames := 0, cells := 0, slots := 0, locals := 0 } : Room) (va_Pc [.ref (ad n)] (zIn D cy K ad g sz)) (va_Qi (fun r g1 => rdPost cy K ad n (st, di, co, ki, va) (some (0, di, co, ki, va)) r g1 ∧ zFr (zOne n) g g1) (zOut D cy K ad sz) (zA K ad sz)) 0 0 (zA K ad sz) := by
  refine z_met (by decide) (Nat.le_of_ble_eq_true rfl) (fun p e s m below meth c ls hsz hl C0 hr hnm hP hS => ?_)
  subst hsz
  have hl : lv_has ls 1 [(0, .ref (ad n))] := hl
  have hx := C0.1; have hb := C0.2.1; have hown := C0.2.2.2.1; have hts := C0.2.2.2.2.1
  have hFr : zFr (zOne n) g g := zFr.rf
  refine lv_aload_n hx hb dX3_takesBetween_0 rfl (lv_at hl 0 rfl) ?_
  refine lv_iconst (v := 0) hx hb dX3_takesBetween_1 (by decide) ?_
  refine zp_R_st C0 hP hS hR hFr (by first | rfl | (dsimp only [zOne, zRg]; omega) | (dsimp only; omega) | omega) fp_X3_11 dX3_takesBetween_2 (fun g_1 H locs hP hS hR hFr hF1 => ?_)
  refine lv_iconst (v := 1) hx hb dX3_takesBetween_5 (by decide) ?_
  exact z_zret C0 hP hS hr rfl (⟨Or.inl ⟨_, rfl, rfl, hR⟩, hFr⟩) dX3_takesBetween_6
set_option maxHeartbeats 4000000 in
set_option maxRecDepth 100000 in
theorem m_X3_takesDigit (l : Launch) {D : va_G} {cy : Nat → ClassId} {K : Nat} {ad : Nat → Nat} {g : Nat → va_E} (sz : Nat) {n : Nat} {st di co ki va : Int32} {dz : Int32} (hR : isR cy K ad g n st di co ki va) : Met l yX3_takesDigit (zs yX3_takesDigit cX3_takesDigit 2 (some .boolean)) ({ frames := 0, cells := 0, slots := 0, locals := 0 } : Room) (va_Pc [.ref (ad n), .int dz] (zIn D cy K ad g sz)) (va_Qi (fun r g1 => rdPost cy K ad n (st, di, co, ki, va) (if ki = 43 ∧ di < 6 ∧ 0 ≤ dz ∧ dz ≤ 9 then some (st, di + 1, co, ki, 10 * va + dz) else none) r g1 ∧ zFr (zOne n) g g1) (zOut D cy K ad sz) (zA K ad sz)) 0 0 (zA K ad sz) := by
  refine z_met (by decide) (Nat.le_of_ble_eq_true rfl) (fun p e s m below meth c ls hsz hl C0 hr hnm hP hS => ?_)
  subst hsz
  have hl : lv_has ls 2 [(0, .ref (ad n)), (1, .int dz)] := hl
  have hx := C0.1; have hb := C0.2.1; have hown := C0.2.2.2.1; have hts := C0.2.2.2.2.1
  have hFr : zFr (zOne n) g g := zFr.rf
  refine lv_aload_n hx hb dX3_takesDigit_0 rfl (lv_at hl 0 rfl) ?_
  refine z_get C0 hP hR.n0 hR.o fd_X3_21 rfl dX3_takesDigit_1 ?_
  refine lv_bipush (v := 43) hx hb dX3_takesDigit_4 (by decide) ?_
  refine lv_icmp_ne (tgt := 28) hx hb dX3_takesDigit_6 (by decide) (fun c_6 => ?_) (fun c_6 => ?_)
  · have hq : ¬ (ki = 43 ∧ di < 6 ∧ 0 ≤ dz ∧ dz ≤ 9) := fun q => c_6 q.1
    refine lv_iconst (v := 0) hx hb dX3_takesDigit_28 (by decide) ?_
    exact z_zret C0 hP hS hr rfl (⟨Or.inr ⟨if_neg hq, rfl, hR⟩, hFr⟩) dX3_takesDigit_29
  · refine lv_aload_n hx hb dX3_takesDigit_9 rfl (lv_at hl 0 rfl) ?_
    refine z_get C0 hP hR.n0 hR.o fd_X3_15 rfl dX3_takesDigit_10 ?_
    refine lv_bipush (v := 6) hx hb dX3_takesDigit_13 (by decide) ?_
    refine lv_icmp_ge (tgt := 28) hx hb dX3_takesDigit_15 (by decide) (fun c_15 => ?_) (fun c_15 => ?_)
    · have hq : ¬ (ki = 43 ∧ di < 6 ∧ 0 ≤ dz ∧ dz ≤ 9) := fun q => absurd c_15 (Int32.not_le.mpr q.2.1)
      refine lv_iconst (v := 0) hx hb dX3_takesDigit_28 (by decide) ?_
      exact z_zret C0 hP hS hr rfl (⟨Or.inr ⟨if_neg hq, rfl, hR⟩, hFr⟩) dX3_takesDigit_29
    · refine lv_iload_n hx hb dX3_takesDigit_18 rfl (lv_at hl 1 rfl) ?_
      refine lv_if_lt (tgt := 28) hx hb dX3_takesDigit_19 (by decide) (fun c_19 => ?_) (fun c_19 => ?_)
      · have hq : ¬ (ki = 43 ∧ di < 6 ∧ 0 ≤ dz ∧ dz ≤ 9) := fun q => absurd c_19 (Int32.not_lt.mpr q.2.2.1)
        refine lv_iconst (v := 0) hx hb dX3_takesDigit_28 (by decide) ?_
        exact z_zret C0 hP hS hr rfl (⟨Or.inr ⟨if_neg hq, rfl, hR⟩, hFr⟩) dX3_takesDigit_29
      · refine lv_iload_n hx hb dX3_takesDigit_22 rfl (lv_at hl 1 rfl) ?_
        refine lv_bipush (v := 9) hx hb dX3_takesDigit_23 (by decide) ?_
        refine lv_icmp_le (tgt := 30) hx hb dX3_takesDigit_25 (by decide) (fun c_25 => ?_) (fun c_25 => ?_)
        · have hq : ki = 43 ∧ di < 6 ∧ 0 ≤ dz ∧ dz ≤ 9 := ⟨c_6, Int32.not_le.mp c_15, Int32.not_lt.mp c_19, c_25⟩
          refine lv_aload_n hx hb dX3_takesDigit_30 rfl (lv_at hl 0 rfl) ?_
          refine lv_bipush (v := 10) hx hb dX3_takesDigit_31 (by decide) ?_
          refine lv_aload_n hx hb dX3_takesDigit_33 rfl (lv_at hl 0 rfl) ?_
          refine z_get C0 hP hR.n0 hR.o fd_X3_25 rfl dX3_takesDigit_34 ?_
          refine lv_imul hx hb dX3_takesDigit_37 ?_
          refine lv_iload_n hx hb dX3_takesDigit_38 rfl (lv_at hl 1 rfl) ?_
          refine lv_iadd hx hb dX3_takesDigit_39 ?_
          refine zp_R_va C0 hP hS hR hFr (by first | rfl | (dsimp only [zOne, zRg]; omega) | (dsimp only; omega) | omega) fp_X3_25 dX3_takesDigit_40 (fun g_1 H locs hP hS hR hFr hF1 => ?_)
          refine lv_aload_n hx hb dX3_takesDigit_43 rfl (lv_at hl 0 rfl) ?_
          refine lv_dup hx hb dX3_takesDigit_44 rfl ?_
          refine z_get C0 hP hR.n0 hR.o fd_X3_15 rfl dX3_takesDigit_45 ?_
          refine lv_iconst (v := 1) hx hb dX3_takesDigit_48 (by decide) ?_
          refine lv_iadd hx hb dX3_takesDigit_49 ?_
          refine zp_R_di C0 hP hS hR hFr (by first | rfl | (dsimp only [zOne, zRg]; omega) | (dsimp only; omega) | omega) fp_X3_15 dX3_takesDigit_50 (fun g_2 H locs hP hS hR hFr hF1 => ?_)
          refine lv_iconst (v := 1) hx hb dX3_takesDigit_53 (by decide) ?_
          exact z_zret C0 hP hS hr rfl (⟨Or.inl ⟨_, if_pos hq, rfl, hR⟩, hFr⟩) dX3_takesDigit_54
        · have hq : ¬ (ki = 43 ∧ di < 6 ∧ 0 ≤ dz ∧ dz ≤ 9) := fun q => c_25 q.2.2.2
          refine lv_iconst (v := 0) hx hb dX3_takesDigit_28 (by decide) ?_
          exact z_zret C0 hP hS hr rfl (⟨Or.inr ⟨if_neg hq, rfl, hR⟩, hFr⟩) dX3_takesDigit_29
set_option maxHeartbeats 4000000 in
set_option maxRecDepth 100000 in
theorem m_X3_takes (l : Launch) {D : va_G} {cy : Nat → ClassId} {K : Nat} {ad : Nat → Nat} {g : Nat → va_E} (sz : Nat) {n : Nat} {st di co ki va : Int32} {cz : Int32} (hR : isR cy K ad g n st di co ki va) (hst : st = 0 ∨ st = 1 ∨ st = 2 ∨ st = 3) (hcz : narrow .char (.int cz) = .int cz) (hcy : fits .char (.int cz) = true) : Met l yX3_takes (zs yX3_takes cX3_takes 2 (some .boolean)) ({ frames := 2, cells := 0, slots := 0, locals := 42 } : Room) (va_Pc [.ref (ad n), .int cz] (zIn D cy K ad g sz)) (va_Qi (fun r g1 => rdPost cy K ad n (st, di, co, ki, va) (rdStep (st, di, co, ki, va) cz) r g1 ∧ zFr (zOne n) g g1) (zOut D cy K ad sz) (zA K ad sz)) 0 0 (zA K ad sz) := by
  refine z_met (by decide) (Nat.le_of_ble_eq_true rfl) (fun p e s m below meth c ls hsz hl C0 hr hnm hP hS => ?_)
  subst hsz
  have hl : lv_has ls 2 [(0, .ref (ad n)), (1, .int cz)] := hl
  have hx := C0.1; have hb := C0.2.1; have hown := C0.2.2.2.1; have hts := C0.2.2.2.2.1
  have hFr : zFr (zOne n) g g := zFr.rf
  refine lv_aload_n hx hb dX3_takes_0 rfl (lv_at hl 0 rfl) ?_
  refine z_get C0 hP hR.n0 hR.o fd_X3_11 rfl dX3_takes_1 ?_
  rcases hst with rfl | rfl | rfl | rfl
  · refine lv_tableIn (tgt := 32) hx hb dX3_takes_4 (by decide) (by decide) rfl (by decide) ?_
    refine lv_aload_n hx hb dX3_takes_32 rfl (lv_at hl 0 rfl) ?_
    refine lv_iload_n hx hb dX3_takes_33 rfl (lv_at hl 1 rfl) ?_
    refine lv_bipush (v := 48) hx hb dX3_takes_34 (by decide) ?_
    refine lv_isub hx hb dX3_takes_36 ?_
    refine z_Vi_mo (As := [.int (cz - 48)]) (rest := []) C0 hP hS hl.1 (m_X3_takesCord l _ hR) lk_X3_28 hR.n0 hR.o rfl rfl (Nat.le_of_ble_eq_true rfl) ⟨Nat.le_of_ble_eq_true rfl, Nat.le_of_ble_eq_true rfl⟩ rfl rfl ⟨Nat.zero_le _, Nat.zero_le _⟩ dX3_takes_37 (fun r_37 g_1 H locs hP hS hp => ?_)
    obtain ⟨hp1, hF1⟩ := hp
    have hFr := hFr.tr (hF1.mono (by intro x9 hx9; first | (dsimp only [zOne, zRg] at hx9 ⊢; omega) | (dsimp only at hx9 ⊢; omega) | omega))
    exact z_zret C0 hP hS hr hp1.bool (⟨hp1, hFr⟩) dX3_takes_40
  · refine lv_tableIn (tgt := 41) hx hb dX3_takes_4 (by decide) (by decide) rfl (by decide) ?_
    refine lv_aload_n hx hb dX3_takes_41 rfl (lv_at hl 0 rfl) ?_
    refine lv_iload_n hx hb dX3_takes_42 rfl (lv_at hl 1 rfl) ?_
    refine z_Vi_mo (As := [.int cz]) (rest := []) C0 hP hS hl.1 (m_X3_takesKind l _ hR hcz hcy) lk_X3_32 hR.n0 hR.o rfl rfl (Nat.le_of_ble_eq_true rfl) ⟨Nat.le_of_ble_eq_true rfl, Nat.le_of_ble_eq_true rfl⟩ rfl rfl ⟨Nat.zero_le _, Nat.zero_le _⟩ dX3_takes_43 (fun r_43 g_2 H locs hP hS hp => ?_)
    obtain ⟨hp1, hF1⟩ := hp
    have hFr := hFr.tr (hF1.mono (by intro x9 hx9; first | (dsimp only [zOne, zRg] at hx9 ⊢; omega) | (dsimp only at hx9 ⊢; omega) | omega))
    exact z_zret C0 hP hS hr hp1.bool (⟨hp1, hFr⟩) dX3_takes_46
  · refine lv_tableIn (tgt := 47) hx hb dX3_takes_4 (by decide) (by decide) rfl (by decide) ?_
    refine lv_aload_n hx hb dX3_takes_47 rfl (lv_at hl 0 rfl) ?_
    refine lv_iload_n hx hb dX3_takes_48 rfl (lv_at hl 1 rfl) ?_
    refine lv_bipush (v := 48) hx hb dX3_takes_49 (by decide) ?_
    refine lv_isub hx hb dX3_takes_51 ?_
    refine z_Vi_mo (As := [.int (cz - 48)]) (rest := []) C0 hP hS hl.1 (m_X3_takesValue l _ hR) lk_X3_36 hR.n0 hR.o rfl rfl (Nat.le_of_ble_eq_true rfl) ⟨Nat.le_of_ble_eq_true rfl, Nat.le_of_ble_eq_true rfl⟩ rfl rfl ⟨Nat.zero_le _, Nat.zero_le _⟩ dX3_takes_52 (fun r_52 g_3 H locs hP hS hp => ?_)
    obtain ⟨hp1, hF1⟩ := hp
    have hFr := hFr.tr (hF1.mono (by intro x9 hx9; first | (dsimp only [zOne, zRg] at hx9 ⊢; omega) | (dsimp only at hx9 ⊢; omega) | omega))
    exact z_zret C0 hP hS hr hp1.bool (⟨hp1, hFr⟩) dX3_takes_55
  · refine lv_tableOut (tgt := 56) hx hb dX3_takes_4 (by decide) (by decide) ?_
    refine lv_iload_n hx hb dX3_takes_56 rfl (lv_at hl 1 rfl) ?_
    refine lv_bipush (v := 59) hx hb dX3_takes_57 (by decide) ?_
    refine lv_icmp_ne (tgt := 69) hx hb dX3_takes_59 (by decide) (fun c_59 => ?_) (fun c_59 => ?_)
    · refine lv_aload_n hx hb dX3_takes_69 rfl (lv_at hl 0 rfl) ?_
      refine lv_iload_n hx hb dX3_takes_70 rfl (lv_at hl 1 rfl) ?_
      refine lv_bipush (v := 48) hx hb dX3_takes_71 (by decide) ?_
      refine lv_isub hx hb dX3_takes_73 ?_
      refine z_Vi_mo (As := [.int (cz - 48)]) (rest := []) C0 hP hS hl.1 (m_X3_takesDigit l _ hR) lk_X3_43 hR.n0 hR.o rfl rfl (Nat.le_of_ble_eq_true rfl) ⟨Nat.le_of_ble_eq_true rfl, Nat.le_of_ble_eq_true rfl⟩ rfl rfl ⟨Nat.zero_le _, Nat.zero_le _⟩ dX3_takes_74 (fun r_74 g_4 H locs hP hS hp => ?_)
      obtain ⟨hp1, hF1⟩ := hp
      have hFr := hFr.tr (hF1.mono (by intro x9 hx9; first | (dsimp only [zOne, zRg] at hx9 ⊢; omega) | (dsimp only at hx9 ⊢; omega) | omega))
      exact z_zret C0 hP hS hr hp1.bool (by first | exact ⟨(show rdStep (3, di, co, ki, va) cz = _ from if_pos c_59) ▸ hp1, hFr⟩ | exact ⟨(show rdStep (3, di, co, ki, va) cz = _ from if_neg c_59) ▸ hp1, hFr⟩) dX3_takes_77
    · refine lv_aload_n hx hb dX3_takes_62 rfl (lv_at hl 0 rfl) ?_
      refine z_Vi_mo (As := []) (rest := []) C0 hP hS hl.1 (m_X3_takesBetween l _ hR) lk_X3_39 hR.n0 hR.o rfl rfl (Nat.le_of_ble_eq_true rfl) ⟨Nat.le_of_ble_eq_true rfl, Nat.le_of_ble_eq_true rfl⟩ rfl rfl ⟨Nat.zero_le _, Nat.zero_le _⟩ dX3_takes_63 (fun r_63 g_5 H locs hP hS hp => ?_)
      obtain ⟨hp1, hF1⟩ := hp
      have hFr := hFr.tr (hF1.mono (by intro x9 hx9; first | (dsimp only [zOne, zRg] at hx9 ⊢; omega) | (dsimp only at hx9 ⊢; omega) | omega))
      refine lv_goto (tgt := 77) hx hb dX3_takes_66 (by decide) ?_
      exact z_zret C0 hP hS hr hp1.bool (by first | exact ⟨(show rdStep (3, di, co, ki, va) cz = _ from if_pos c_59) ▸ hp1, hFr⟩ | exact ⟨(show rdStep (3, di, co, ki, va) cz = _ from if_neg c_59) ▸ hp1, hFr⟩) dX3_takes_77
