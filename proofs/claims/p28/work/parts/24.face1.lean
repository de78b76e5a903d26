set_option maxHeartbeats 4000000 in
set_option maxRecDepth 100000 in
theorem m_X4_cordAt (l : Launch) {D : va_G} {cy : Nat → ClassId} {K : Nat} {ad : Nat → Nat} {g : Nat → va_E} (sz : Nat) {sn : Nat → Option Nat} {bu tl : Nat → Int32} {ln9 : Int32} {st : Nat → Int32} {iz : Nat} (hX : isX cy K ad g 0 sn bu tl ln9) (hH : isH cy K ad g 1 st) (hi : iz < 7) : Met l yX4_cordAt (zs yX4_cordAt cX4_cordAt 2 (some (.object "HerdCords$Cord"))) ({ frames := 2, cells := 0, slots := 0, locals := 60 } : Room) (va_Pc [.ref (ad 0), .int (nI iz)] (zIn D cy K ad g sz)) (va_Qr (fun g1 => g1 = g) (fun g1 a t => a = ad (1 + 2 + 4 * iz) ∧ zOut D cy K ad (sz) g1 t) (zA K ad (sz))) 0 0 (zA K ad sz) := by
  refine z_met (by decide) (Nat.le_of_ble_eq_true rfl) (fun p e s m below meth c ls hsz hl C0 hr hnm hP hS => ?_)
  subst hsz
  have hl : lv_has ls 2 [(0, .ref (ad 0)), (1, .int (nI iz))] := hl
  have hx := C0.1; have hb := C0.2.1; have hown := C0.2.2.2.1; have hts := C0.2.2.2.2.1
  refine lv_iload_n hx hb dX4_cordAt_0 rfl (lv_at hl 1 rfl) ?_
  refine lv_if_lt (tgt := 10) hx hb dX4_cordAt_1 (by decide) (fun c_1 => absurd c_1 (nI_pos (by omega))) (fun c_1 => ?_)
  refine lv_iload_n hx hb dX4_cordAt_4 rfl (lv_at hl 1 rfl) ?_
  refine lv_bipush (v := 7) hx hb dX4_cordAt_5 (by decide) ?_
  refine lv_icmp_lt (tgt := 21) hx hb dX4_cordAt_7 (by decide) (fun c_7 => ?_) (fun c_7 => absurd (nI_lt (b := 7) hi (by decide)) c_7)
  refine lv_aload_n hx hb dX4_cordAt_21 rfl (lv_at hl 0 rfl) ?_
  refine z_get C0 hP hX.n0 hX.o fd_X4_10 rfl dX4_cordAt_22 ?_
  obtain ⟨rw, hG, hrw, hCs⟩ := id hH
  refine z_get C0 hP hG.n0 hG.o fd_X4_286 rfl dX4_cordAt_25 ?_
  refine lv_iload_n hx hb dX4_cordAt_28 rfl (lv_at hl 1 rfl) ?_
  refine z_aald C0 hP hG.n1 hG.a_rw rfl (zIx_nI (by omega) (by decide)) (congrArg va_rf (hrw iz hi)) dX4_cordAt_29 ?_
  exact z_aret C0 hP hS hr (rfl) dX4_cordAt_30
set_option maxHeartbeats 4000000 in
set_option maxRecDepth 100000 in
theorem m_X4_checkPlace (l : Launch) {D : va_G} {cy : Nat → ClassId} {K : Nat} {ad : Nat → Nat} {g : Nat → va_E} (sz : Nat) {jz : Nat} (hj : jz < 6) : Met l yX4_checkPlace (zs yX4_checkPlace cX4_checkPlace 1 none) ({ frames := 2, cells := 0, slots := 0, locals := 60 } : Room) (va_Pc [.int (nI jz)] (zIn D cy K ad g sz)) (va_Qv (fun g1 => g1 = g) (zOut D cy K ad sz) (zA K ad sz)) 0 0 (zA K ad sz) := by
  refine z_met (by decide) (Nat.le_of_ble_eq_true rfl) (fun p e s m below meth c ls hsz hl C0 hr hnm hP hS => ?_)
  subst hsz
  have hl : lv_has ls 1 [(0, .int (nI jz))] := hl
  have hx := C0.1; have hb := C0.2.1; have hown := C0.2.2.2.1; have hts := C0.2.2.2.2.1
  refine lv_iload_n hx hb dX4_checkPlace_0 rfl (lv_at hl 0 rfl) ?_
  refine lv_if_lt (tgt := 10) hx hb dX4_checkPlace_1 (by decide) (fun c_1 => absurd c_1 (nI_pos (by omega))) (fun c_1 => ?_)
  refine lv_iload_n hx hb dX4_checkPlace_4 rfl (lv_at hl 0 rfl) ?_
  refine lv_bipush (v := 6) hx hb dX4_checkPlace_5 (by decide) ?_
  refine lv_icmp_lt (tgt := 21) hx hb dX4_checkPlace_7 (by decide) (fun c_7 => ?_) (fun c_7 => absurd (nI_lt (b := 6) hj (by decide)) c_7)
  exact z_vret C0 hP hS hr rfl dX4_checkPlace_21
set_option maxHeartbeats 4000000 in
set_option maxRecDepth 100000 in
theorem m_X4_checkNumber (l : Launch) {D : va_G} {cy : Nat → ClassId} {K : Nat} {ad : Nat → Nat} {g : Nat → va_E} (sz : Nat) {num : Int32} (hn1 : ¬ num < 1) (hn2 : num ≤ 999999) : Met l yX4_checkNumber (zs yX4_checkNumber cX4_checkNumber 1 none) ({ frames := 2, cells := 0, slots := 0, locals := 60 } : Room) (va_Pc [.int num] (zIn D cy K ad g sz)) (va_Qv (fun g1 => g1 = g) (zOut D cy K ad sz) (zA K ad sz)) 0 0 (zA K ad sz) := by
  refine z_met (by decide) (Nat.le_of_ble_eq_true rfl) (fun p e s m below meth c ls hsz hl C0 hr hnm hP hS => ?_)
  subst hsz
  have hl : lv_has ls 1 [(0, .int num)] := hl
  have hx := C0.1; have hb := C0.2.1; have hown := C0.2.2.2.1; have hts := C0.2.2.2.2.1
  refine lv_iload_n hx hb dX4_checkNumber_0 rfl (lv_at hl 0 rfl) ?_
  refine lv_iconst (v := 1) hx hb dX4_checkNumber_1 (by decide) ?_
  refine lv_icmp_lt (tgt := 12) hx hb dX4_checkNumber_2 (by decide) (fun c_2 => absurd c_2 hn1) (fun c_2 => ?_)
  refine lv_iload_n hx hb dX4_checkNumber_5 rfl (lv_at hl 0 rfl) ?_
  refine lv_ldcw hx hb hown (hts _ q403) dX4_checkNumber_6 ?_
  refine lv_icmp_le (tgt := 23) hx hb dX4_checkNumber_9 (by decide) (fun c_9 => ?_) (fun c_9 => absurd hn2 c_9)
  exact z_vret C0 hP hS hr rfl dX4_checkNumber_23
set_option maxHeartbeats 4000000 in
set_option maxRecDepth 100000 in
theorem m_X4_checkHue (l : Launch) {D : va_G} {cy : Nat → ClassId} {K : Nat} {ad : Nat → Nat} {g : Nat → va_E} (sz : Nat) {hu : Int32} (hu1 : ¬ hu < 0) (hu2 : hu < 6) : Met l yX4_checkHue (zs yX4_checkHue cX4_checkHue 1 none) ({ frames := 2, cells := 0, slots := 0, locals := 60 } : Room) (va_Pc [.int hu] (zIn D cy K ad g sz)) (va_Qv (fun g1 => g1 = g) (zOut D cy K ad sz) (zA K ad sz)) 0 0 (zA K ad sz) := by
  refine z_met (by decide) (Nat.le_of_ble_eq_true rfl) (fun p e s m below meth c ls hsz hl C0 hr hnm hP hS => ?_)
  subst hsz
  have hl : lv_has ls 1 [(0, .int hu)] := hl
  have hx := C0.1; have hb := C0.2.1; have hown := C0.2.2.2.1; have hts := C0.2.2.2.2.1
  refine lv_iload_n hx hb dX4_checkHue_0 rfl (lv_at hl 0 rfl) ?_
  refine lv_if_lt (tgt := 10) hx hb dX4_checkHue_1 (by decide) (fun c_1 => absurd c_1 hu1) (fun c_1 => ?_)
  refine lv_iload_n hx hb dX4_checkHue_4 rfl (lv_at hl 0 rfl) ?_
  refine lv_bipush (v := 6) hx hb dX4_checkHue_5 (by decide) ?_
  refine lv_icmp_lt (tgt := 21) hx hb dX4_checkHue_7 (by decide) (fun c_7 => ?_) (fun c_7 => absurd hu2 c_7)
  exact z_vret C0 hP hS hr rfl dX4_checkHue_21
set_option maxHeartbeats 4000000 in
set_option maxRecDepth 100000 in
theorem m_X4_checkSlot (l : Launch) {D : va_G} {cy : Nat → ClassId} {K : Nat} {ad : Nat → Nat} {g : Nat → va_E} (sz : Nat) {jz : Nat} (hj : jz < 2) : Met l yX4_checkSlot (zs yX4_checkSlot cX4_checkSlot 1 none) ({ frames := 2, cells := 0, slots := 0, locals := 60 } : Room) (va_Pc [.int (nI jz)] (zIn D cy K ad g sz)) (va_Qv (fun g1 => g1 = g) (zOut D cy K ad sz) (zA K ad sz)) 0 0 (zA K ad sz) := by
  refine z_met (by decide) (Nat.le_of_ble_eq_true rfl) (fun p e s m below meth c ls hsz hl C0 hr hnm hP hS => ?_)
  subst hsz
  have hl : lv_has ls 1 [(0, .int (nI jz))] := hl
  have hx := C0.1; have hb := C0.2.1; have hown := C0.2.2.2.1; have hts := C0.2.2.2.2.1
  refine lv_iload_n hx hb dX4_checkSlot_0 rfl (lv_at hl 0 rfl) ?_
  refine lv_if_lt (tgt := 9) hx hb dX4_checkSlot_1 (by decide) (fun c_1 => absurd c_1 (nI_pos (by omega))) (fun c_1 => ?_)
  refine lv_iload_n hx hb dX4_checkSlot_4 rfl (lv_at hl 0 rfl) ?_
  refine lv_iconst (v := 2) hx hb dX4_checkSlot_5 (by decide) ?_
  refine lv_icmp_lt (tgt := 20) hx hb dX4_checkSlot_6 (by decide) (fun c_6 => ?_) (fun c_6 => absurd (nI_lt (b := 2) hj (by decide)) c_6)
  exact z_vret C0 hP hS hr rfl dX4_checkSlot_20
set_option maxHeartbeats 4000000 in
set_option maxRecDepth 100000 in
theorem m_X4_tie (l : Launch) {D : va_G} {cy : Nat → ClassId} {K : Nat} {ad : Nat → Nat} {g : Nat → va_E} (sz : Nat) {st : Nat → Int32} {sv : Nat → Nat → Int32} {nx sz2 : Nat} {ns : Nat → Option Nat} {ss : Nat → Nat → Int32} {bu : Nat → Int32} {ln : Nat} {iz : Nat} {num : Int32} (hTT : isT cy K ad g st sv nx sz2 ns ss bu ln) (hi : iz < 7) (hn1 : ¬ num < 1) (hn2 : num ≤ 999999) (hpc : pcOK st) (hnx : nx < 6) (hsz : sz2 ≤ 6) : Met l yX4_tie (zs yX4_tie cX4_tie 4 (some .int)) ({ frames := 5, cells := 0, slots := 0, locals := 124 } : Room) (va_Pc [.ref (ad 0), .int (nI iz), .int num] (zIn D cy K ad g sz)) (va_Qi (fun r g1 => r = tieR st iz num ∧ isT cy K ad g1 (tieS st iz num) (va_up sv nx st) ((nx + 1) % 6) (min (sz2 + 1) 6) ns ss bu ln ∧ zFr zCl g g1) (zOut D cy K ad sz) (zA K ad sz)) 0 0 (zA K ad sz) := by
  refine z_met (by decide) (Nat.le_of_ble_eq_true rfl) (fun p e s m below meth c ls hsz hl C0 hr hnm hP hS => ?_)
  subst hsz
  have hl : lv_has ls 4 [(0, .ref (ad 0)), (1, .int (nI iz)), (2, .int num)] := hl
  have hx := C0.1; have hb := C0.2.1; have hown := C0.2.2.2.1; have hts := C0.2.2.2.2.1
  have hFr : zFr (zCl) g g := zFr.rf
  obtain ⟨sn, tl, rs, x, hX, hH, hHi, hRs, hTr, hSn⟩ := id hTT
  have hR : isR cy K ad g 215 rs.1 rs.2.1 rs.2.2.1 rs.2.2.2.1 rs.2.2.2.2 := hRs
  refine lv_aload_n hx hb dX4_tie_0 rfl (lv_at hl 0 rfl) ?_
  refine lv_iload_n hx hb dX4_tie_1 rfl (lv_at hl 1 rfl) ?_
  refine z_Vr_eq (As := [.int (nI iz)]) (rest := []) C0 hP hS hl.1 (m_X4_cordAt l _ hX hH hi) lk_X4_53 hX.n0 hX.o rfl rfl (Nat.le_of_ble_eq_true rfl) ⟨Nat.le_of_ble_eq_true rfl, Nat.le_of_ble_eq_true rfl⟩ rfl rfl ⟨Nat.zero_le _, Nat.zero_le _⟩ dX4_tie_2 (fun H locs hP hS => ?_)
  refine lv_astore_n (lv' := [(3, .ref (ad (1 + 2 + 4 * iz))), (0, .ref (ad 0)), (1, .int (nI iz)), (2, .int num)]) hx hb dX4_tie_5 rfl hl (by decide) rfl (fun ls hl => ?_)
  refine lv_iload_n hx hb dX4_tie_6 rfl (lv_at hl 3 rfl) ?_
  refine z_Sv_eq (As := [.int num]) (rest := []) C0 hP hS hl.1 (m_X4_checkNumber l _ hn1 hn2) lk_X4_57 rfl rfl (Nat.le_of_ble_eq_true rfl) ⟨Nat.le_of_ble_eq_true rfl, Nat.le_of_ble_eq_true rfl⟩ rfl rfl ⟨Nat.zero_le _, Nat.zero_le _⟩ dX4_tie_7 (fun H locs hP hS => ?_)
  refine lv_aload_n hx hb dX4_tie_10 rfl (lv_at hl 1 rfl) ?_
  refine z_get C0 hP hX.n0 hX.o fd_X4_19 rfl dX4_tie_11 ?_
  refine lv_aload_n hx hb dX4_tie_14 rfl (lv_at hl 1 rfl) ?_
  refine z_get C0 hP hX.n0 hX.o fd_X4_10 rfl dX4_tie_15 ?_
  obtain ⟨fs_18, hfs_18⟩ := hHi.rc
  refine z_Vv_mo (As := [.ref (ad 1)]) (rest := []) C0 hP hS hl.1 (m_X2_save l _ hHi hH (by omega) hnx hsz) lk_X4_61 hHi.n0 hfs_18 rfl rfl (Nat.le_of_ble_eq_true rfl) ⟨Nat.le_of_ble_eq_true rfl, Nat.le_of_ble_eq_true rfl⟩ rfl rfl ⟨Nat.zero_le _, Nat.zero_le _⟩ dX4_tie_18 (fun g_1 H locs hP hS hp => ?_)
  obtain ⟨hHi, hF1⟩ := hp
  have hX := hX.kept hF1 (by first | (dsimp only [zOne, zRg, zCl]; omega) | (dsimp only; omega) | omega)
  have hH := hH.kept hF1 (by intro z9 h8 h9; first | (dsimp only [zOne, zRg, zCl]; omega) | (dsimp only; omega) | omega)
  have hR := hR.kept hF1 (by first | (dsimp only [zOne, zRg, zCl]; omega) | (dsimp only; omega) | omega)
  have hTr := hTr.kept hF1 (by intro z9 h8 h9; first | (dsimp only [zOne, zRg, zCl]; omega) | (dsimp only; omega) | omega)
  have hSn := hSn.kept hF1 (by intro z9 h8; first | (dsimp only [zOne, zRg, zCl]; omega) | (dsimp only; omega) | omega)
  have hFr := hFr.tr (hF1.mono (by intro x9 hx9; first | (dsimp only [zOne, zRg, zCl] at hx9 ⊢; omega) | (dsimp only at hx9 ⊢; omega) | omega))
  refine lv_aload_n hx hb dX4_tie_21 rfl (lv_at hl 1 rfl) ?_
  refine z_get C0 hP hX.n0 hX.o fd_X4_10 rfl dX4_tie_22 ?_
  refine lv_aload_n hx hb dX4_tie_25 rfl (lv_at hl 0 rfl) ?_
  refine lv_iload_n hx hb dX4_tie_26 rfl (lv_at hl 3 rfl) ?_
  obtain ⟨fs_27, hfs_27⟩ := hH.rc
  refine z_Vi_mo (As := [.ref (ad (1 + 2 + 4 * iz)), .int num]) (rest := []) C0 hP hS hl.1 (mf_tiePart l _ hH hi hpc) lk_X4_65 hH.n0 hfs_27 rfl rfl (Nat.le_of_ble_eq_true rfl) ⟨Nat.le_of_ble_eq_true rfl, Nat.le_of_ble_eq_true rfl⟩ rfl rfl ⟨Nat.zero_le _, Nat.zero_le _⟩ dX4_tie_27 (fun r_27 g_2 H locs hP hS hp => ?_)
  obtain ⟨hr_27, hH, hF1⟩ := hp
  subst hr_27
  have hX := hX.kept hF1 (by first | (dsimp only [zOne, zRg, zCl]; omega) | (dsimp only; omega) | omega)
  have hHi := hHi.kept hF1 (by intro z9 h8 h9; first | (dsimp only [zOne, zRg, zCl]; omega) | (dsimp only; omega) | omega)
  have hR := hR.kept hF1 (by first | (dsimp only [zOne, zRg, zCl]; omega) | (dsimp only; omega) | omega)
  have hTr := hTr.kept hF1 (by intro z9 h8 h9; first | (dsimp only [zOne, zRg, zCl]; omega) | (dsimp only; omega) | omega)
  have hSn := hSn.kept hF1 (by intro z9 h8; first | (dsimp only [zOne, zRg, zCl]; omega) | (dsimp only; omega) | omega)
  have hFr := hFr.tr (hF1.mono (by intro x9 hx9; first | (dsimp only [zOne, zRg, zCl] at hx9 ⊢; omega) | (dsimp only at hx9 ⊢; omega) | omega))
  exact z_iret C0 hP hS hr (⟨rfl, ⟨_, _, rs, _, hX, hH, hHi, hR, hTr, hSn⟩, hFr⟩) dX4_tie_30
set_option maxHeartbeats 4000000 in
set_option maxRecDepth 100000 in
theorem m_X4_add (l : Launch) {D : va_G} {cy : Nat → ClassId} {K : Nat} {ad : Nat → Nat} {g : Nat → va_E} (sz : Nat) {st : Nat → Int32} {sv : Nat → Nat → Int32} {nx sz2 : Nat} {ns : Nat → Option Nat} {ss : Nat → Nat → Int32} {bu : Nat → Int32} {ln : Nat} {iz jz : Nat} (hTT : isT cy K ad g st sv nx sz2 ns ss bu ln) (hi : iz < 7) (hj : jz < 7) (hij : iz ≠ jz) (hpc : pcOK st) (hnx : nx < 6) (hsz : sz2 ≤ 6) : Met l yX4_add (zs yX4_add cX4_add 5 (some .int)) ({ frames := 6, cells := 0, slots := 0, locals := 141 } : Room) (va_Pc [.ref (ad 0), .int (nI iz), .int (nI jz)] (zIn D cy K ad g sz)) (va_Qi (fun r g1 => r = addR st iz jz ∧ isT cy K ad g1 (addS st iz jz) (va_up sv nx st) ((nx + 1) % 6) (min (sz2 + 1) 6) ns ss bu ln ∧ zFr zCl g g1) (zOut D cy K ad sz) (zA K ad sz)) 0 0 (zA K ad sz) := by
  refine z_met (by decide) (Nat.le_of_ble_eq_true rfl) (fun p e s m below meth c ls hsz hl C0 hr hnm hP hS => ?_)
  subst hsz
  have hl : lv_has ls 5 [(0, .ref (ad 0)), (1, .int (nI iz)), (2, .int (nI jz))] := hl
  have hx := C0.1; have hb := C0.2.1; have hown := C0.2.2.2.1; have hts := C0.2.2.2.2.1
  have hFr : zFr (zCl) g g := zFr.rf
  obtain ⟨sn, tl, rs, x, hX, hH, hHi, hRs, hTr, hSn⟩ := id hTT
  have hR : isR cy K ad g 215 rs.1 rs.2.1 rs.2.2.1 rs.2.2.2.1 rs.2.2.2.2 := hRs
  refine lv_aload_n hx hb dX4_add_0 rfl (lv_at hl 0 rfl) ?_
  refine lv_iload_n hx hb dX4_add_1 rfl (lv_at hl 1 rfl) ?_
  refine z_Vr_eq (As := [.int (nI iz)]) (rest := []) C0 hP hS hl.1 (m_X4_cordAt l _ hX hH hi) lk_X4_53 hX.n0 hX.o rfl rfl (Nat.le_of_ble_eq_true rfl) ⟨Nat.le_of_ble_eq_true rfl, Nat.le_of_ble_eq_true rfl⟩ rfl rfl ⟨Nat.zero_le _, Nat.zero_le _⟩ dX4_add_2 (fun H locs hP hS => ?_)
  refine lv_astore_n (lv' := [(3, .ref (ad (1 + 2 + 4 * iz))), (0, .ref (ad 0)), (1, .int (nI iz)), (2, .int (nI jz))]) hx hb dX4_add_5 rfl hl (by decide) rfl (fun ls hl => ?_)
  refine lv_aload_n hx hb dX4_add_6 rfl (lv_at hl 1 rfl) ?_
  refine lv_iload_n hx hb dX4_add_7 rfl (lv_at hl 3 rfl) ?_
  refine z_Vr_eq (As := [.int (nI jz)]) (rest := []) C0 hP hS hl.1 (m_X4_cordAt l _ hX hH hj) lk_X4_53 hX.n0 hX.o rfl rfl (Nat.le_of_ble_eq_true rfl) ⟨Nat.le_of_ble_eq_true rfl, Nat.le_of_ble_eq_true rfl⟩ rfl rfl ⟨Nat.zero_le _, Nat.zero_le _⟩ dX4_add_8 (fun H locs hP hS => ?_)
  refine lv_astore (lv' := [(4, .ref (ad (1 + 2 + 4 * jz))), (3, .ref (ad (1 + 2 + 4 * iz))), (0, .ref (ad 0)), (1, .int (nI iz)), (2, .int (nI jz))]) hx hb dX4_add_11 hl (by decide) rfl (fun ls hl => ?_)
  refine lv_iload_n hx hb dX4_add_13 rfl (lv_at hl 3 rfl) ?_
  refine lv_iload_n hx hb dX4_add_14 rfl (lv_at hl 4 rfl) ?_
  refine lv_icmp_ne (tgt := 28) hx hb dX4_add_15 (by decide) (fun c_15 => ?_) (fun c_15 => absurd ((nI_eq (by omega) (by omega)).mp c_15) hij)
  refine lv_aload_n hx hb dX4_add_28 rfl (lv_at hl 2 rfl) ?_
  refine z_get C0 hP hX.n0 hX.o fd_X4_19 rfl dX4_add_29 ?_
  refine lv_aload_n hx hb dX4_add_32 rfl (lv_at hl 2 rfl) ?_
  refine z_get C0 hP hX.n0 hX.o fd_X4_10 rfl dX4_add_33 ?_
  obtain ⟨fs_36, hfs_36⟩ := hHi.rc
  refine z_Vv_mo (As := [.ref (ad 1)]) (rest := []) C0 hP hS hl.1 (m_X2_save l _ hHi hH (by omega) hnx hsz) lk_X4_61 hHi.n0 hfs_36 rfl rfl (Nat.le_of_ble_eq_true rfl) ⟨Nat.le_of_ble_eq_true rfl, Nat.le_of_ble_eq_true rfl⟩ rfl rfl ⟨Nat.zero_le _, Nat.zero_le _⟩ dX4_add_36 (fun g_1 H locs hP hS hp => ?_)
  obtain ⟨hHi, hF1⟩ := hp
  have hX := hX.kept hF1 (by first | (dsimp only [zOne, zRg, zCl]; omega) | (dsimp only; omega) | omega)
  have hH := hH.kept hF1 (by intro z9 h8 h9; first | (dsimp only [zOne, zRg, zCl]; omega) | (dsimp only; omega) | omega)
  have hR := hR.kept hF1 (by first | (dsimp only [zOne, zRg, zCl]; omega) | (dsimp only; omega) | omega)
  have hTr := hTr.kept hF1 (by intro z9 h8 h9; first | (dsimp only [zOne, zRg, zCl]; omega) | (dsimp only; omega) | omega)
  have hSn := hSn.kept hF1 (by intro z9 h8; first | (dsimp only [zOne, zRg, zCl]; omega) | (dsimp only; omega) | omega)
  have hFr := hFr.tr (hF1.mono (by intro x9 hx9; first | (dsimp only [zOne, zRg, zCl] at hx9 ⊢; omega) | (dsimp only at hx9 ⊢; omega) | omega))
  refine lv_aload_n hx hb dX4_add_39 rfl (lv_at hl 2 rfl) ?_
  refine z_get C0 hP hX.n0 hX.o fd_X4_10 rfl dX4_add_40 ?_
  refine lv_aload_n hx hb dX4_add_43 rfl (lv_at hl 1 rfl) ?_
  refine lv_aload hx hb dX4_add_44 (lv_at hl 0 rfl) ?_
  obtain ⟨fs_46, hfs_46⟩ := hH.rc
  refine z_Vi_mo (As := [.ref (ad (1 + 2 + 4 * iz)), .ref (ad (1 + 2 + 4 * jz))]) (rest := []) C0 hP hS hl.1 (m_X1_tieCord l _ hH hi hj hpc) lk_X4_76 hH.n0 hfs_46 rfl rfl (Nat.le_of_ble_eq_true rfl) ⟨Nat.le_of_ble_eq_true rfl, Nat.le_of_ble_eq_true rfl⟩ rfl rfl ⟨Nat.zero_le _, Nat.zero_le _⟩ dX4_add_46 (fun r_46 g_2 H locs hP hS hp => ?_)
  obtain ⟨hr_46, hH, hF1⟩ := hp
  subst hr_46
  have hX := hX.kept hF1 (by first | (dsimp only [zOne, zRg, zCl]; omega) | (dsimp only; omega) | omega)
  have hHi := hHi.kept hF1 (by intro z9 h8 h9; first | (dsimp only [zOne, zRg, zCl]; omega) | (dsimp only; omega) | omega)
  have hR := hR.kept hF1 (by first | (dsimp only [zOne, zRg, zCl]; omega) | (dsimp only; omega) | omega)
  have hTr := hTr.kept hF1 (by intro z9 h8 h9; first | (dsimp only [zOne, zRg, zCl]; omega) | (dsimp only; omega) | omega)
  have hSn := hSn.kept hF1 (by intro z9 h8; first | (dsimp only [zOne, zRg, zCl]; omega) | (dsimp only; omega) | omega)
  have hFr := hFr.tr (hF1.mono (by intro x9 hx9; first | (dsimp only [zOne, zRg, zCl] at hx9 ⊢; omega) | (dsimp only at hx9 ⊢; omega) | omega))
  exact z_iret C0 hP hS hr (⟨rfl, ⟨_, _, rs, _, hX, hH, hHi, hR, hTr, hSn⟩, hFr⟩) dX4_add_49
set_option maxHeartbeats 4000000 in
set_option maxRecDepth 100000 in
theorem m_X4_slip (l : Launch) {D : va_G} {cy : Nat → ClassId} {K : Nat} {ad : Nat → Nat} {g : Nat → va_E} (sz : Nat) {st : Nat → Int32} {sv : Nat → Nat → Int32} {nx sz2 : Nat} {ns : Nat → Option Nat} {ss : Nat → Nat → Int32} {bu : Nat → Int32} {ln : Nat} {iz jz : Nat} (hTT : isT cy K ad g st sv nx sz2 ns ss bu ln) (hi : iz < 7) (hj : jz < 6) (hnx : nx < 6) (hsz : sz2 ≤ 6) : Met l yX4_slip (zs yX4_slip cX4_slip 4 (some .int)) ({ frames := 4, cells := 0, slots := 0, locals := 124 } : Room) (va_Pc [.ref (ad 0), .int (nI iz), .int (nI jz)] (zIn D cy K ad g sz)) (va_Qi (fun r g1 => r = slipR st iz jz ∧ isT cy K ad g1 (slipS st iz jz) (va_up sv nx st) ((nx + 1) % 6) (min (sz2 + 1) 6) ns ss bu ln ∧ zFr zCl g g1) (zOut D cy K ad sz) (zA K ad sz)) 0 0 (zA K ad sz) := by
  refine z_met (by decide) (Nat.le_of_ble_eq_true rfl) (fun p e s m below meth c ls hsz hl C0 hr hnm hP hS => ?_)
  subst hsz
  have hl : lv_has ls 4 [(0, .ref (ad 0)), (1, .int (nI iz)), (2, .int (nI jz))] := hl
  have hx := C0.1; have hb := C0.2.1; have hown := C0.2.2.2.1; have hts := C0.2.2.2.2.1
  have hFr : zFr (zCl) g g := zFr.rf
  obtain ⟨sn, tl, rs, x, hX, hH, hHi, hRs, hTr, hSn⟩ := id hTT
  have hR : isR cy K ad g 215 rs.1 rs.2.1 rs.2.2.1 rs.2.2.2.1 rs.2.2.2.2 := hRs
  refine lv_aload_n hx hb dX4_slip_0 rfl (lv_at hl 0 rfl) ?_
  refine lv_iload_n hx hb dX4_slip_1 rfl (lv_at hl 1 rfl) ?_
  refine z_Vr_eq (As := [.int (nI iz)]) (rest := []) C0 hP hS hl.1 (m_X4_cordAt l _ hX hH hi) lk_X4_53 hX.n0 hX.o rfl rfl (Nat.le_of_ble_eq_true rfl) ⟨Nat.le_of_ble_eq_true rfl, Nat.le_of_ble_eq_true rfl⟩ rfl rfl ⟨Nat.zero_le _, Nat.zero_le _⟩ dX4_slip_2 (fun H locs hP hS => ?_)
  refine lv_astore_n (lv' := [(3, .ref (ad (1 + 2 + 4 * iz))), (0, .ref (ad 0)), (1, .int (nI iz)), (2, .int (nI jz))]) hx hb dX4_slip_5 rfl hl (by decide) rfl (fun ls hl => ?_)
  refine lv_iload_n hx hb dX4_slip_6 rfl (lv_at hl 3 rfl) ?_
  refine z_Sv_eq (As := [.int (nI jz)]) (rest := []) C0 hP hS hl.1 (m_X4_checkPlace l _ hj) lk_X4_80 rfl rfl (Nat.le_of_ble_eq_true rfl) ⟨Nat.le_of_ble_eq_true rfl, Nat.le_of_ble_eq_true rfl⟩ rfl rfl ⟨Nat.zero_le _, Nat.zero_le _⟩ dX4_slip_7 (fun H locs hP hS => ?_)
  refine lv_aload_n hx hb dX4_slip_10 rfl (lv_at hl 1 rfl) ?_
  refine z_get C0 hP hX.n0 hX.o fd_X4_19 rfl dX4_slip_11 ?_
  refine lv_aload_n hx hb dX4_slip_14 rfl (lv_at hl 1 rfl) ?_
  refine z_get C0 hP hX.n0 hX.o fd_X4_10 rfl dX4_slip_15 ?_
  obtain ⟨fs_18, hfs_18⟩ := hHi.rc
  refine z_Vv_mo (As := [.ref (ad 1)]) (rest := []) C0 hP hS hl.1 (m_X2_save l _ hHi hH (by omega) hnx hsz) lk_X4_61 hHi.n0 hfs_18 rfl rfl (Nat.le_of_ble_eq_true rfl) ⟨Nat.le_of_ble_eq_true rfl, Nat.le_of_ble_eq_true rfl⟩ rfl rfl ⟨Nat.zero_le _, Nat.zero_le _⟩ dX4_slip_18 (fun g_1 H locs hP hS hp => ?_)
  obtain ⟨hHi, hF1⟩ := hp
  have hX := hX.kept hF1 (by first | (dsimp only [zOne, zRg, zCl]; omega) | (dsimp only; omega) | omega)
  have hH := hH.kept hF1 (by intro z9 h8 h9; first | (dsimp only [zOne, zRg, zCl]; omega) | (dsimp only; omega) | omega)
  have hR := hR.kept hF1 (by first | (dsimp only [zOne, zRg, zCl]; omega) | (dsimp only; omega) | omega)
  have hTr := hTr.kept hF1 (by intro z9 h8 h9; first | (dsimp only [zOne, zRg, zCl]; omega) | (dsimp only; omega) | omega)
  have hSn := hSn.kept hF1 (by intro z9 h8; first | (dsimp only [zOne, zRg, zCl]; omega) | (dsimp only; omega) | omega)
  have hFr := hFr.tr (hF1.mono (by intro x9 hx9; first | (dsimp only [zOne, zRg, zCl] at hx9 ⊢; omega) | (dsimp only at hx9 ⊢; omega) | omega))
  refine lv_aload_n hx hb dX4_slip_21 rfl (lv_at hl 1 rfl) ?_
  refine z_get C0 hP hX.n0 hX.o fd_X4_10 rfl dX4_slip_22 ?_
  refine lv_aload_n hx hb dX4_slip_25 rfl (lv_at hl 0 rfl) ?_
  refine lv_iload_n hx hb dX4_slip_26 rfl (lv_at hl 3 rfl) ?_
  obtain ⟨fs_27, hfs_27⟩ := hH.rc
  refine z_Vi_mo (As := [.ref (ad (1 + 2 + 4 * iz)), .int (nI jz)]) (rest := []) C0 hP hS hl.1 (mf_loosen l _ hH hi hj) lk_X4_83 hH.n0 hfs_27 rfl rfl (Nat.le_of_ble_eq_true rfl) ⟨Nat.le_of_ble_eq_true rfl, Nat.le_of_ble_eq_true rfl⟩ rfl rfl ⟨Nat.zero_le _, Nat.zero_le _⟩ dX4_slip_27 (fun r_27 g_2 H locs hP hS hp => ?_)
  obtain ⟨hr_27, hH, hF1⟩ := hp
  subst hr_27
  have hX := hX.kept hF1 (by first | (dsimp only [zOne, zRg, zCl]; omega) | (dsimp only; omega) | omega)
  have hHi := hHi.kept hF1 (by intro z9 h8 h9; first | (dsimp only [zOne, zRg, zCl]; omega) | (dsimp only; omega) | omega)
  have hR := hR.kept hF1 (by first | (dsimp only [zOne, zRg, zCl]; omega) | (dsimp only; omega) | omega)
  have hTr := hTr.kept hF1 (by intro z9 h8 h9; first | (dsimp only [zOne, zRg, zCl]; omega) | (dsimp only; omega) | omega)
  have hSn := hSn.kept hF1 (by intro z9 h8; first | (dsimp only [zOne, zRg, zCl]; omega) | (dsimp only; omega) | omega)
  have hFr := hFr.tr (hF1.mono (by intro x9 hx9; first | (dsimp only [zOne, zRg, zCl] at hx9 ⊢; omega) | (dsimp only at hx9 ⊢; omega) | omega))
  exact z_iret C0 hP hS hr (⟨rfl, ⟨_, _, rs, _, hX, hH, hHi, hR, hTr, hSn⟩, hFr⟩) dX4_slip_30
set_option maxHeartbeats 4000000 in
set_option maxRecDepth 100000 in
theorem m_X4_mend (l : Launch) {D : va_G} {cy : Nat → ClassId} {K : Nat} {ad : Nat → Nat} {g : Nat → va_E} (sz : Nat) {st : Nat → Int32} {sv : Nat → Nat → Int32} {nx sz2 : Nat} {ns : Nat → Option Nat} {ss : Nat → Nat → Int32} {bu : Nat → Int32} {ln : Nat} {iz : Nat} (hTT : isT cy K ad g st sv nx sz2 ns ss bu ln) (hi : iz < 7) (hpc : pcOK st) (hnx : nx < 6) (hsz : sz2 ≤ 6) : Met l yX4_mend (zs yX4_mend cX4_mend 3 (some .int)) ({ frames := 4, cells := 0, slots := 0, locals := 124 } : Room) (va_Pc [.ref (ad 0), .int (nI iz)] (zIn D cy K ad g sz)) (va_Qi (fun r g1 => r = mendR st iz ∧ isT cy K ad g1 (mendS st iz) (va_up sv nx st) ((nx + 1) % 6) (min (sz2 + 1) 6) ns ss bu ln ∧ zFr zCl g g1) (zOut D cy K ad sz) (zA K ad sz)) 0 0 (zA K ad sz) := by
  refine z_met (by decide) (Nat.le_of_ble_eq_true rfl) (fun p e s m below meth c ls hsz hl C0 hr hnm hP hS => ?_)
  subst hsz
  have hl : lv_has ls 3 [(0, .ref (ad 0)), (1, .int (nI iz))] := hl
  have hx := C0.1; have hb := C0.2.1; have hown := C0.2.2.2.1; have hts := C0.2.2.2.2.1
  have hFr : zFr (zCl) g g := zFr.rf
  obtain ⟨sn, tl, rs, x, hX, hH, hHi, hRs, hTr, hSn⟩ := id hTT
  have hR : isR cy K ad g 215 rs.1 rs.2.1 rs.2.2.1 rs.2.2.2.1 rs.2.2.2.2 := hRs
  refine lv_aload_n hx hb dX4_mend_0 rfl (lv_at hl 0 rfl) ?_
  refine lv_iload_n hx hb dX4_mend_1 rfl (lv_at hl 1 rfl) ?_
  refine z_Vr_eq (As := [.int (nI iz)]) (rest := []) C0 hP hS hl.1 (m_X4_cordAt l _ hX hH hi) lk_X4_53 hX.n0 hX.o rfl rfl (Nat.le_of_ble_eq_true rfl) ⟨Nat.le_of_ble_eq_true rfl, Nat.le_of_ble_eq_true rfl⟩ rfl rfl ⟨Nat.zero_le _, Nat.zero_le _⟩ dX4_mend_2 (fun H locs hP hS => ?_)
  refine lv_astore_n (lv' := [(2, .ref (ad (1 + 2 + 4 * iz))), (0, .ref (ad 0)), (1, .int (nI iz))]) hx hb dX4_mend_5 rfl hl (by decide) rfl (fun ls hl => ?_)
  refine lv_aload_n hx hb dX4_mend_6 rfl (lv_at hl 1 rfl) ?_
  refine z_get C0 hP hX.n0 hX.o fd_X4_19 rfl dX4_mend_7 ?_
  refine lv_aload_n hx hb dX4_mend_10 rfl (lv_at hl 1 rfl) ?_
  refine z_get C0 hP hX.n0 hX.o fd_X4_10 rfl dX4_mend_11 ?_
  obtain ⟨fs_14, hfs_14⟩ := hHi.rc
  refine z_Vv_mo (As := [.ref (ad 1)]) (rest := []) C0 hP hS hl.1 (m_X2_save l _ hHi hH (by omega) hnx hsz) lk_X4_61 hHi.n0 hfs_14 rfl rfl (Nat.le_of_ble_eq_true rfl) ⟨Nat.le_of_ble_eq_true rfl, Nat.le_of_ble_eq_true rfl⟩ rfl rfl ⟨Nat.zero_le _, Nat.zero_le _⟩ dX4_mend_14 (fun g_1 H locs hP hS hp => ?_)
  obtain ⟨hHi, hF1⟩ := hp
  have hX := hX.kept hF1 (by first | (dsimp only [zOne, zRg, zCl]; omega) | (dsimp only; omega) | omega)
  have hH := hH.kept hF1 (by intro z9 h8 h9; first | (dsimp only [zOne, zRg, zCl]; omega) | (dsimp only; omega) | omega)
  have hR := hR.kept hF1 (by first | (dsimp only [zOne, zRg, zCl]; omega) | (dsimp only; omega) | omega)
  have hTr := hTr.kept hF1 (by intro z9 h8 h9; first | (dsimp only [zOne, zRg, zCl]; omega) | (dsimp only; omega) | omega)
  have hSn := hSn.kept hF1 (by intro z9 h8; first | (dsimp only [zOne, zRg, zCl]; omega) | (dsimp only; omega) | omega)
  have hFr := hFr.tr (hF1.mono (by intro x9 hx9; first | (dsimp only [zOne, zRg, zCl] at hx9 ⊢; omega) | (dsimp only at hx9 ⊢; omega) | omega))
  refine lv_aload_n hx hb dX4_mend_17 rfl (lv_at hl 1 rfl) ?_
  refine z_get C0 hP hX.n0 hX.o fd_X4_10 rfl dX4_mend_18 ?_
  refine lv_aload_n hx hb dX4_mend_21 rfl (lv_at hl 0 rfl) ?_
  obtain ⟨fs_22, hfs_22⟩ := hH.rc
  refine z_Vi_mo (As := [.ref (ad (1 + 2 + 4 * iz))]) (rest := []) C0 hP hS hl.1 (mf_tieLack l _ hH hi hpc) lk_X4_86 hH.n0 hfs_22 rfl rfl (Nat.le_of_ble_eq_true rfl) ⟨Nat.le_of_ble_eq_true rfl, Nat.le_of_ble_eq_true rfl⟩ rfl rfl ⟨Nat.zero_le _, Nat.zero_le _⟩ dX4_mend_22 (fun r_22 g_2 H locs hP hS hp => ?_)
  obtain ⟨hr_22, hH, hF1⟩ := hp
  subst hr_22
  have hX := hX.kept hF1 (by first | (dsimp only [zOne, zRg, zCl]; omega) | (dsimp only; omega) | omega)
  have hHi := hHi.kept hF1 (by intro z9 h8 h9; first | (dsimp only [zOne, zRg, zCl]; omega) | (dsimp only; omega) | omega)
  have hR := hR.kept hF1 (by first | (dsimp only [zOne, zRg, zCl]; omega) | (dsimp only; omega) | omega)
  have hTr := hTr.kept hF1 (by intro z9 h8 h9; first | (dsimp only [zOne, zRg, zCl]; omega) | (dsimp only; omega) | omega)
  have hSn := hSn.kept hF1 (by intro z9 h8; first | (dsimp only [zOne, zRg, zCl]; omega) | (dsimp only; omega) | omega)
  have hFr := hFr.tr (hF1.mono (by intro x9 hx9; first | (dsimp only [zOne, zRg, zCl] at hx9 ⊢; omega) | (dsimp only at hx9 ⊢; omega) | omega))
  exact z_iret C0 hP hS hr (⟨rfl, ⟨_, _, rs, _, hX, hH, hHi, hR, hTr, hSn⟩, hFr⟩) dX4_mend_25
set_option maxHeartbeats 4000000 in
set_option maxRecDepth 100000 in
theorem m_X4_renew (l : Launch) {D : va_G} {cy : Nat → ClassId} {K : Nat} {ad : Nat → Nat} {g : Nat → va_E} (sz : Nat) {st : Nat → Int32} {sv : Nat → Nat → Int32} {nx sz2 : Nat} {ns : Nat → Option Nat} {ss : Nat → Nat → Int32} {bu : Nat → Int32} {ln : Nat} {iz : Nat} (hTT : isT cy K ad g st sv nx sz2 ns ss bu ln) (hi : iz < 7) (hnx : nx < 6) (hsz : sz2 ≤ 6) : Met l yX4_renew (zs yX4_renew cX4_renew 3 (some .int)) ({ frames := 4, cells := 0, slots := 0, locals := 124 } : Room) (va_Pc [.ref (ad 0), .int (nI iz)] (zIn D cy K ad g sz)) (va_Qi (fun r g1 => r = cTold st iz ∧ isT cy K ad g1 (renF st iz) (va_up sv nx st) ((nx + 1) % 6) (min (sz2 + 1) 6) ns ss bu ln ∧ zFr zCl g g1) (zOut D cy K ad sz) (zA K ad sz)) 0 0 (zA K ad sz) := by
  refine z_met (by decide) (Nat.le_of_ble_eq_true rfl) (fun p e s m below meth c ls hsz hl C0 hr hnm hP hS => ?_)
  subst hsz
  have hl : lv_has ls 3 [(0, .ref (ad 0)), (1, .int (nI iz))] := hl
  have hx := C0.1; have hb := C0.2.1; have hown := C0.2.2.2.1; have hts := C0.2.2.2.2.1
  have hFr : zFr (zCl) g g := zFr.rf
  obtain ⟨sn, tl, rs, x, hX, hH, hHi, hRs, hTr, hSn⟩ := id hTT
  have hR : isR cy K ad g 215 rs.1 rs.2.1 rs.2.2.1 rs.2.2.2.1 rs.2.2.2.2 := hRs
  refine lv_aload_n hx hb dX4_renew_0 rfl (lv_at hl 0 rfl) ?_
  refine lv_iload_n hx hb dX4_renew_1 rfl (lv_at hl 1 rfl) ?_
  refine z_Vr_eq (As := [.int (nI iz)]) (rest := []) C0 hP hS hl.1 (m_X4_cordAt l _ hX hH hi) lk_X4_53 hX.n0 hX.o rfl rfl (Nat.le_of_ble_eq_true rfl) ⟨Nat.le_of_ble_eq_true rfl, Nat.le_of_ble_eq_true rfl⟩ rfl rfl ⟨Nat.zero_le _, Nat.zero_le _⟩ dX4_renew_2 (fun H locs hP hS => ?_)
  refine lv_astore_n (lv' := [(2, .ref (ad (1 + 2 + 4 * iz))), (0, .ref (ad 0)), (1, .int (nI iz))]) hx hb dX4_renew_5 rfl hl (by decide) rfl (fun ls hl => ?_)
  refine lv_aload_n hx hb dX4_renew_6 rfl (lv_at hl 1 rfl) ?_
  refine z_get C0 hP hX.n0 hX.o fd_X4_19 rfl dX4_renew_7 ?_
  refine lv_aload_n hx hb dX4_renew_10 rfl (lv_at hl 1 rfl) ?_
  refine z_get C0 hP hX.n0 hX.o fd_X4_10 rfl dX4_renew_11 ?_
  obtain ⟨fs_14, hfs_14⟩ := hHi.rc
  refine z_Vv_mo (As := [.ref (ad 1)]) (rest := []) C0 hP hS hl.1 (m_X2_save l _ hHi hH (by omega) hnx hsz) lk_X4_61 hHi.n0 hfs_14 rfl rfl (Nat.le_of_ble_eq_true rfl) ⟨Nat.le_of_ble_eq_true rfl, Nat.le_of_ble_eq_true rfl⟩ rfl rfl ⟨Nat.zero_le _, Nat.zero_le _⟩ dX4_renew_14 (fun g_1 H locs hP hS hp => ?_)
  obtain ⟨hHi, hF1⟩ := hp
  have hX := hX.kept hF1 (by first | (dsimp only [zOne, zRg, zCl]; omega) | (dsimp only; omega) | omega)
  have hH := hH.kept hF1 (by intro z9 h8 h9; first | (dsimp only [zOne, zRg, zCl]; omega) | (dsimp only; omega) | omega)
  have hR := hR.kept hF1 (by first | (dsimp only [zOne, zRg, zCl]; omega) | (dsimp only; omega) | omega)
  have hTr := hTr.kept hF1 (by intro z9 h8 h9; first | (dsimp only [zOne, zRg, zCl]; omega) | (dsimp only; omega) | omega)
  have hSn := hSn.kept hF1 (by intro z9 h8; first | (dsimp only [zOne, zRg, zCl]; omega) | (dsimp only; omega) | omega)
  have hFr := hFr.tr (hF1.mono (by intro x9 hx9; first | (dsimp only [zOne, zRg, zCl] at hx9 ⊢; omega) | (dsimp only at hx9 ⊢; omega) | omega))
  refine lv_aload_n hx hb dX4_renew_17 rfl (lv_at hl 1 rfl) ?_
  refine z_get C0 hP hX.n0 hX.o fd_X4_10 rfl dX4_renew_18 ?_
  refine lv_aload_n hx hb dX4_renew_21 rfl (lv_at hl 0 rfl) ?_
  obtain ⟨fs_22, hfs_22⟩ := hH.rc
  refine z_Vi_mo (As := [.ref (ad (1 + 2 + 4 * iz))]) (rest := []) C0 hP hS hl.1 (mf_replace l _ hH hi) lk_X4_90 hH.n0 hfs_22 rfl rfl (Nat.le_of_ble_eq_true rfl) ⟨Nat.le_of_ble_eq_true rfl, Nat.le_of_ble_eq_true rfl⟩ rfl rfl ⟨Nat.zero_le _, Nat.zero_le _⟩ dX4_renew_22 (fun r_22 g_2 H locs hP hS hp => ?_)
  obtain ⟨hr_22, hH, hF1⟩ := hp
  subst hr_22
  have hX := hX.kept hF1 (by first | (dsimp only [zOne, zRg, zCl]; omega) | (dsimp only; omega) | omega)
  have hHi := hHi.kept hF1 (by intro z9 h8 h9; first | (dsimp only [zOne, zRg, zCl]; omega) | (dsimp only; omega) | omega)
  have hR := hR.kept hF1 (by first | (dsimp only [zOne, zRg, zCl]; omega) | (dsimp only; omega) | omega)
  have hTr := hTr.kept hF1 (by intro z9 h8 h9; first | (dsimp only [zOne, zRg, zCl]; omega) | (dsimp only; omega) | omega)
  have hSn := hSn.kept hF1 (by intro z9 h8; first | (dsimp only [zOne, zRg, zCl]; omega) | (dsimp only; omega) | omega)
  have hFr := hFr.tr (hF1.mono (by intro x9 hx9; first | (dsimp only [zOne, zRg, zCl] at hx9 ⊢; omega) | (dsimp only at hx9 ⊢; omega) | omega))
  exact z_iret C0 hP hS hr (⟨rfl, ⟨_, _, rs, _, hX, hH, hHi, hR, hTr, hSn⟩, hFr⟩) dX4_renew_25
set_option maxHeartbeats 4000000 in
set_option maxRecDepth 100000 in
theorem m_X4_dye (l : Launch) {D : va_G} {cy : Nat → ClassId} {K : Nat} {ad : Nat → Nat} {g : Nat → va_E} (sz : Nat) {st : Nat → Int32} {sv : Nat → Nat → Int32} {nx sz2 : Nat} {ns : Nat → Option Nat} {ss : Nat → Nat → Int32} {bu : Nat → Int32} {ln : Nat} {iz : Nat} {hu : Int32} (hTT : isT cy K ad g st sv nx sz2 ns ss bu ln) (hi : iz < 7) (hu1 : ¬ hu < 0) (hu2 : hu < 6) (hnx : nx < 6) (hsz : sz2 ≤ 6) : Met l yX4_dye (zs yX4_dye cX4_dye 5 (some .int)) ({ frames := 4, cells := 0, slots := 0, locals := 124 } : Room) (va_Pc [.ref (ad 0), .int (nI iz), .int hu] (zIn D cy K ad g sz)) (va_Qi (fun r g1 => r = st (6 + 31 * iz + 0) ∧ isT cy K ad g1 (upd st (6 + 31 * iz + 0) hu) (va_up sv nx st) ((nx + 1) % 6) (min (sz2 + 1) 6) ns ss bu ln ∧ zFr zCl g g1) (zOut D cy K ad sz) (zA K ad sz)) 0 0 (zA K ad sz) := by
  refine z_met (by decide) (Nat.le_of_ble_eq_true rfl) (fun p e s m below meth c ls hsz hl C0 hr hnm hP hS => ?_)
  subst hsz
  have hl : lv_has ls 5 [(0, .ref (ad 0)), (1, .int (nI iz)), (2, .int hu)] := hl
  have hx := C0.1; have hb := C0.2.1; have hown := C0.2.2.2.1; have hts := C0.2.2.2.2.1
  have hFr : zFr (zCl) g g := zFr.rf
  obtain ⟨sn, tl, rs, x, hX, hH, hHi, hRs, hTr, hSn⟩ := id hTT
  have hR : isR cy K ad g 215 rs.1 rs.2.1 rs.2.2.1 rs.2.2.2.1 rs.2.2.2.2 := hRs
  refine lv_aload_n hx hb dX4_dye_0 rfl (lv_at hl 0 rfl) ?_
  refine lv_iload_n hx hb dX4_dye_1 rfl (lv_at hl 1 rfl) ?_
  refine z_Vr_eq (As := [.int (nI iz)]) (rest := []) C0 hP hS hl.1 (m_X4_cordAt l _ hX hH hi) lk_X4_53 hX.n0 hX.o rfl rfl (Nat.le_of_ble_eq_true rfl) ⟨Nat.le_of_ble_eq_true rfl, Nat.le_of_ble_eq_true rfl⟩ rfl rfl ⟨Nat.zero_le _, Nat.zero_le _⟩ dX4_dye_2 (fun H locs hP hS => ?_)
  refine lv_astore_n (lv' := [(3, .ref (ad (1 + 2 + 4 * iz))), (0, .ref (ad 0)), (1, .int (nI iz)), (2, .int hu)]) hx hb dX4_dye_5 rfl hl (by decide) rfl (fun ls hl => ?_)
  refine lv_iload_n hx hb dX4_dye_6 rfl (lv_at hl 3 rfl) ?_
  refine z_Sv_eq (As := [.int hu]) (rest := []) C0 hP hS hl.1 (m_X4_checkHue l _ hu1 hu2) lk_X4_93 rfl rfl (Nat.le_of_ble_eq_true rfl) ⟨Nat.le_of_ble_eq_true rfl, Nat.le_of_ble_eq_true rfl⟩ rfl rfl ⟨Nat.zero_le _, Nat.zero_le _⟩ dX4_dye_7 (fun H locs hP hS => ?_)
  refine lv_aload_n hx hb dX4_dye_10 rfl (lv_at hl 1 rfl) ?_
  refine z_get C0 hP hX.n0 hX.o fd_X4_19 rfl dX4_dye_11 ?_
  refine lv_aload_n hx hb dX4_dye_14 rfl (lv_at hl 1 rfl) ?_
  refine z_get C0 hP hX.n0 hX.o fd_X4_10 rfl dX4_dye_15 ?_
  obtain ⟨fs_18, hfs_18⟩ := hHi.rc
  refine z_Vv_mo (As := [.ref (ad 1)]) (rest := []) C0 hP hS hl.1 (m_X2_save l _ hHi hH (by omega) hnx hsz) lk_X4_61 hHi.n0 hfs_18 rfl rfl (Nat.le_of_ble_eq_true rfl) ⟨Nat.le_of_ble_eq_true rfl, Nat.le_of_ble_eq_true rfl⟩ rfl rfl ⟨Nat.zero_le _, Nat.zero_le _⟩ dX4_dye_18 (fun g_1 H locs hP hS hp => ?_)
  obtain ⟨hHi, hF1⟩ := hp
  have hX := hX.kept hF1 (by first | (dsimp only [zOne, zRg, zCl]; omega) | (dsimp only; omega) | omega)
  have hH := hH.kept hF1 (by intro z9 h8 h9; first | (dsimp only [zOne, zRg, zCl]; omega) | (dsimp only; omega) | omega)
  have hR := hR.kept hF1 (by first | (dsimp only [zOne, zRg, zCl]; omega) | (dsimp only; omega) | omega)
  have hTr := hTr.kept hF1 (by intro z9 h8 h9; first | (dsimp only [zOne, zRg, zCl]; omega) | (dsimp only; omega) | omega)
  have hSn := hSn.kept hF1 (by intro z9 h8; first | (dsimp only [zOne, zRg, zCl]; omega) | (dsimp only; omega) | omega)
  have hFr := hFr.tr (hF1.mono (by intro x9 hx9; first | (dsimp only [zOne, zRg, zCl] at hx9 ⊢; omega) | (dsimp only at hx9 ⊢; omega) | omega))
  refine lv_aload_n hx hb dX4_dye_21 rfl (lv_at hl 0 rfl) ?_
  obtain ⟨rw, hG, hrw, hCs⟩ := id hH
  obtain ⟨kn, lo, pa, hC, h1, h2, h3⟩ := hCs iz hi
  have hH0 := hH
  refine z_get C0 hP hC.n0 hC.o fd_X4_96 rfl dX4_dye_22 ?_
  refine z_topi (y := st (6 + 31 * iz + 0)) rfl ?_
  refine lv_istore (lv' := [(4, .int (st (6 + 31 * iz + 0))), (3, .ref (ad (1 + 2 + 4 * iz))), (0, .ref (ad 0)), (1, .int (nI iz)), (2, .int hu)]) hx hb dX4_dye_25 hl (by decide) rfl (fun ls hl => ?_)
  refine lv_aload_n hx hb dX4_dye_27 rfl (lv_at hl 1 rfl) ?_
  refine lv_iload_n hx hb dX4_dye_28 rfl (lv_at hl 4 rfl) ?_
  refine zp_C_hu C0 hP hS hC hFr (by first | rfl | (dsimp only [zOne, zRg, zCl]; omega) | (dsimp only; omega) | omega) fp_X4_96 dX4_dye_29 (fun g_2 H locs hP hS hC hFr hF1 => ?_)
  have hX := hX.kept hF1 (by first | (dsimp only [zOne, zRg, zCl]; omega) | (dsimp only; omega) | omega)
  have hHi := hHi.kept hF1 (by intro z9 h8 h9; first | (dsimp only [zOne, zRg, zCl]; omega) | (dsimp only; omega) | omega)
  have hR := hR.kept hF1 (by first | (dsimp only [zOne, zRg, zCl]; omega) | (dsimp only; omega) | omega)
  have hTr := hTr.kept hF1 (by intro z9 h8 h9; first | (dsimp only [zOne, zRg, zCl]; omega) | (dsimp only; omega) | omega)
  have hSn := hSn.kept hF1 (by intro z9 h8; first | (dsimp only [zOne, zRg, zCl]; omega) | (dsimp only; omega) | omega)
  have hG := hG.kept hF1 (by first | (dsimp only [zOne, zRg, zCl]; omega) | (dsimp only; omega) | omega)
  have hH := isH_hue hH0 hi hrw hF1 hG hC h1 h2 h3
  refine lv_iload hx hb dX4_dye_32 (lv_at hl 0 rfl) ?_
  exact z_iret C0 hP hS hr (⟨rfl, ⟨_, _, rs, _, hX, hH, hHi, hR, hTr, hSn⟩, hFr⟩) dX4_dye_34
set_option maxHeartbeats 4000000 in
set_option maxRecDepth 100000 in
theorem m_X4_set (l : Launch) {D : va_G} {cy : Nat → ClassId} {K : Nat} {ad : Nat → Nat} {g : Nat → va_E} (sz : Nat) {st : Nat → Int32} {sv : Nat → Nat → Int32} {nx sz2 : Nat} {ns : Nat → Option Nat} {ss : Nat → Nat → Int32} {bu : Nat → Int32} {ln : Nat} {vz : Int32} (hTT : isT cy K ad g st sv nx sz2 ns ss bu ln) (hv1 : ¬ vz < 20) (hv2 : vz ≤ 99) (hnx : nx < 6) (hsz : sz2 ≤ 6) : Met l yX4_set (zs yX4_set cX4_set 3 (some .int)) ({ frames := 4, cells := 0, slots := 0, locals := 124 } : Room) (va_Pc [.ref (ad 0), .int vz] (zIn D cy K ad g sz)) (va_Qi (fun r g1 => r = st 5 ∧ isT cy K ad g1 (upd st 5 vz) (va_up sv nx st) ((nx + 1) % 6) (min (sz2 + 1) 6) ns ss bu ln ∧ zFr zCl g g1) (zOut D cy K ad sz) (zA K ad sz)) 0 0 (zA K ad sz) := by
  refine z_met (by decide) (Nat.le_of_ble_eq_true rfl) (fun p e s m below meth c ls hsz hl C0 hr hnm hP hS => ?_)
  subst hsz
  have hl : lv_has ls 3 [(0, .ref (ad 0)), (1, .int vz)] := hl
  have hx := C0.1; have hb := C0.2.1; have hown := C0.2.2.2.1; have hts := C0.2.2.2.2.1
  have hFr : zFr (zCl) g g := zFr.rf
  obtain ⟨sn, tl, rs, x, hX, hH, hHi, hRs, hTr, hSn⟩ := id hTT
  have hR : isR cy K ad g 215 rs.1 rs.2.1 rs.2.2.1 rs.2.2.2.1 rs.2.2.2.2 := hRs
  refine lv_iload_n hx hb dX4_set_0 rfl (lv_at hl 1 rfl) ?_
  refine lv_bipush (v := 20) hx hb dX4_set_1 (by decide) ?_
  refine lv_icmp_lt (tgt := 12) hx hb dX4_set_3 (by decide) (fun c_3 => absurd c_3 hv1) (fun c_3 => ?_)
  refine lv_iload_n hx hb dX4_set_6 rfl (lv_at hl 1 rfl) ?_
  refine lv_bipush (v := 99) hx hb dX4_set_7 (by decide) ?_
  refine lv_icmp_le (tgt := 22) hx hb dX4_set_9 (by decide) (fun c_9 => ?_) (fun c_9 => absurd hv2 c_9)
  refine lv_aload_n hx hb dX4_set_22 rfl (lv_at hl 0 rfl) ?_
  refine z_get C0 hP hX.n0 hX.o fd_X4_19 rfl dX4_set_23 ?_
  refine lv_aload_n hx hb dX4_set_26 rfl (lv_at hl 0 rfl) ?_
  refine z_get C0 hP hX.n0 hX.o fd_X4_10 rfl dX4_set_27 ?_
  obtain ⟨fs_30, hfs_30⟩ := hHi.rc
  refine z_Vv_mo (As := [.ref (ad 1)]) (rest := []) C0 hP hS hl.1 (m_X2_save l _ hHi hH (by omega) hnx hsz) lk_X4_61 hHi.n0 hfs_30 rfl rfl (Nat.le_of_ble_eq_true rfl) ⟨Nat.le_of_ble_eq_true rfl, Nat.le_of_ble_eq_true rfl⟩ rfl rfl ⟨Nat.zero_le _, Nat.zero_le _⟩ dX4_set_30 (fun g_1 H locs hP hS hp => ?_)
  obtain ⟨hHi, hF1⟩ := hp
  have hX := hX.kept hF1 (by first | (dsimp only [zOne, zRg, zCl]; omega) | (dsimp only; omega) | omega)
  have hH := hH.kept hF1 (by intro z9 h8 h9; first | (dsimp only [zOne, zRg, zCl]; omega) | (dsimp only; omega) | omega)
  have hR := hR.kept hF1 (by first | (dsimp only [zOne, zRg, zCl]; omega) | (dsimp only; omega) | omega)
  have hTr := hTr.kept hF1 (by intro z9 h8 h9; first | (dsimp only [zOne, zRg, zCl]; omega) | (dsimp only; omega) | omega)
  have hSn := hSn.kept hF1 (by intro z9 h8; first | (dsimp only [zOne, zRg, zCl]; omega) | (dsimp only; omega) | omega)
  have hFr := hFr.tr (hF1.mono (by intro x9 hx9; first | (dsimp only [zOne, zRg, zCl] at hx9 ⊢; omega) | (dsimp only at hx9 ⊢; omega) | omega))
  refine lv_aload_n hx hb dX4_set_33 rfl (lv_at hl 0 rfl) ?_
  refine z_get C0 hP hX.n0 hX.o fd_X4_10 rfl dX4_set_34 ?_
  obtain ⟨rw, hG, hrw, hCs⟩ := id hH
  have hH0 := hH
  refine z_get C0 hP hG.n0 hG.o fd_X4_101 rfl dX4_set_37 ?_
  refine lv_istore_n (lv' := [(2, .int (st 5)), (0, .ref (ad 0)), (1, .int vz)]) hx hb dX4_set_40 rfl hl (by decide) rfl (fun ls hl => ?_)
  refine lv_aload_n hx hb dX4_set_41 rfl (lv_at hl 1 rfl) ?_
  refine z_get C0 hP hX.n0 hX.o fd_X4_10 rfl dX4_set_42 ?_
  refine lv_iload_n hx hb dX4_set_45 rfl (lv_at hl 2 rfl) ?_
  refine zp_G_ro C0 hP hS hG hFr (by first | rfl | (dsimp only [zOne, zRg, zCl]; omega) | (dsimp only; omega) | omega) fp_X4_101 dX4_set_46 (fun g_2 H locs hP hS hG hFr hF1 => ?_)
  have hX := hX.kept hF1 (by first | (dsimp only [zOne, zRg, zCl]; omega) | (dsimp only; omega) | omega)
  have hHi := hHi.kept hF1 (by intro z9 h8 h9; first | (dsimp only [zOne, zRg, zCl]; omega) | (dsimp only; omega) | omega)
  have hR := hR.kept hF1 (by first | (dsimp only [zOne, zRg, zCl]; omega) | (dsimp only; omega) | omega)
  have hTr := hTr.kept hF1 (by intro z9 h8 h9; first | (dsimp only [zOne, zRg, zCl]; omega) | (dsimp only; omega) | omega)
  have hSn := hSn.kept hF1 (by intro z9 h8; first | (dsimp only [zOne, zRg, zCl]; omega) | (dsimp only; omega) | omega)
  have hH := isH_set hH0 hrw hF1 hG
  refine lv_iload_n hx hb dX4_set_49 rfl (lv_at hl 0 rfl) ?_
  exact z_iret C0 hP hS hr (⟨rfl, ⟨_, _, rs, _, hX, hH, hHi, hR, hTr, hSn⟩, hFr⟩) dX4_set_50
set_option maxHeartbeats 4000000 in
set_option maxRecDepth 100000 in
theorem m_X4_undo (l : Launch) {D : va_G} {cy : Nat → ClassId} {K : Nat} {ad : Nat → Nat} {g : Nat → va_E} (sz : Nat) {st : Nat → Int32} {sv : Nat → Nat → Int32} {nx sz2 : Nat} {ns : Nat → Option Nat} {ss : Nat → Nat → Int32} {bu : Nat → Int32} {ln : Nat}  (hTT : isT cy K ad g st sv nx (sz2 + 1) ns ss bu ln) (hnx : nx < 6) (hsz : sz2 < 6) : Met l yX4_undo (zs yX4_undo cX4_undo 1 (some .int)) ({ frames := 4, cells := 0, slots := 0, locals := 124 } : Room) (va_Pc [.ref (ad 0)] (zIn D cy K ad g sz)) (va_Qi (fun r g1 => r = nI sz2 ∧ isT cy K ad g1 (sv ((nx + 5) % 6)) sv ((nx + 5) % 6) sz2 ns ss bu ln ∧ zFr zCl g g1) (zOut D cy K ad sz) (zA K ad sz)) 0 0 (zA K ad sz) := by
  refine z_met (by decide) (Nat.le_of_ble_eq_true rfl) (fun p e s m below meth c ls hsz hl C0 hr hnm hP hS => ?_)
  subst hsz
  have hl : lv_has ls 1 [(0, .ref (ad 0))] := hl
  have hx := C0.1; have hb := C0.2.1; have hown := C0.2.2.2.1; have hts := C0.2.2.2.2.1
  have hFr : zFr (zCl) g g := zFr.rf
  obtain ⟨sn, tl, rs, x, hX, hH, hHi, hRs, hTr, hSn⟩ := id hTT
  have hR : isR cy K ad g 215 rs.1 rs.2.1 rs.2.2.1 rs.2.2.2.1 rs.2.2.2.2 := hRs
  refine lv_aload_n hx hb dX4_undo_0 rfl (lv_at hl 0 rfl) ?_
  refine z_get C0 hP hX.n0 hX.o fd_X4_19 rfl dX4_undo_1 ?_
  obtain ⟨rwY, hY, hrwY, hHa⟩ := id hHi
  refine z_get C0 hP hY.n0 hY.o fd_X4_142 rfl dX4_undo_4 ?_
  refine lv_if_ne (tgt := 20) hx hb dX4_undo_7 (by decide) (fun c_7 => ?_) (fun c_7 => absurd c_7 (nI_ne0 (by omega) (by omega)))
  refine lv_aload_n hx hb dX4_undo_20 rfl (lv_at hl 0 rfl) ?_
  refine z_get C0 hP hX.n0 hX.o fd_X4_19 rfl dX4_undo_21 ?_
  refine lv_aload_n hx hb dX4_undo_24 rfl (lv_at hl 0 rfl) ?_
  refine z_get C0 hP hX.n0 hX.o fd_X4_10 rfl dX4_undo_25 ?_
  obtain ⟨fs_28, hfs_28⟩ := hHi.rc
  refine z_Vv_mo (As := [.ref (ad 1)]) (rest := []) C0 hP hS hl.1 (m_X2_restore l _ hHi hH (by omega) hnx hsz) lk_X4_147 hHi.n0 hfs_28 rfl rfl (Nat.le_of_ble_eq_true rfl) ⟨Nat.le_of_ble_eq_true rfl, Nat.le_of_ble_eq_true rfl⟩ rfl rfl ⟨Nat.zero_le _, Nat.zero_le _⟩ dX4_undo_28 (fun g_1 H locs hP hS hp => ?_)
  obtain ⟨hHi, hH, hF1⟩ := hp
  have hX := hX.kept hF1 (by first | (dsimp only [zOne, zRg, zCl]; omega) | (dsimp only; omega) | omega)
  have hR := hR.kept hF1 (by first | (dsimp only [zOne, zRg, zCl]; omega) | (dsimp only; omega) | omega)
  have hTr := hTr.kept hF1 (by intro z9 h8 h9; first | (dsimp only [zOne, zRg, zCl]; omega) | (dsimp only; omega) | omega)
  have hSn := hSn.kept hF1 (by intro z9 h8; first | (dsimp only [zOne, zRg, zCl]; omega) | (dsimp only; omega) | omega)
  have hFr := hFr.tr (hF1.mono (by intro x9 hx9; first | (dsimp only [zOne, zRg, zCl] at hx9 ⊢; omega) | (dsimp only at hx9 ⊢; omega) | omega))
  refine lv_aload_n hx hb dX4_undo_31 rfl (lv_at hl 0 rfl) ?_
  refine z_get C0 hP hX.n0 hX.o fd_X4_19 rfl dX4_undo_32 ?_
  obtain ⟨rwY, hY, hrwY, hHa⟩ := id hHi
  refine z_get C0 hP hY.n0 hY.o fd_X4_142 rfl dX4_undo_35 ?_
  exact z_iret C0 hP hS hr (⟨rfl, ⟨_, _, rs, _, hX, hH, hHi, hR, hTr, hSn⟩, hFr⟩) dX4_undo_38
set_option maxHeartbeats 4000000 in
set_option maxRecDepth 100000 in
theorem m_X4_cordOf (l : Launch) {D : va_G} {cy : Nat → ClassId} {K : Nat} {ad : Nat → Nat} {g : Nat → va_E} (sz : Nat) {st : Nat → Int32} {sv : Nat → Nat → Int32} {nx sz2 : Nat} {ns : Nat → Option Nat} {ss : Nat → Nat → Int32} {bu : Nat → Int32} {ln : Nat} {iz wz : Nat} (hTT : isT cy K ad g st sv nx sz2 ns ss bu ln) (hi : iz < 7) (hw : wz < 8) (hpc : pcOK st) : Met l yX4_cordOf (zs yX4_cordOf cX4_cordOf 4 (some .int)) ({ frames := 3, cells := 0, slots := 0, locals := 81 } : Room) (va_Pc [.ref (ad 0), .int (nI iz), .int (nI wz)] (zIn D cy K ad g sz)) (va_Qi (fun r g1 => g1 = g ∧ r = cordF st iz wz) (zOut D cy K ad sz) (zA K ad sz)) 0 0 (zA K ad sz) := by
  refine z_met (by decide) (Nat.le_of_ble_eq_true rfl) (fun p e s m below meth c ls hsz hl C0 hr hnm hP hS => ?_)
  subst hsz
  have hl : lv_has ls 4 [(0, .ref (ad 0)), (1, .int (nI iz)), (2, .int (nI wz))] := hl
  have hx := C0.1; have hb := C0.2.1; have hown := C0.2.2.2.1; have hts := C0.2.2.2.2.1
  obtain ⟨sn, tl, rs, x, hX, hH, hHi, hRs, hTr, hSn⟩ := id hTT
  have hR : isR cy K ad g 215 rs.1 rs.2.1 rs.2.2.1 rs.2.2.2.1 rs.2.2.2.2 := hRs
  refine lv_aload_n hx hb dX4_cordOf_0 rfl (lv_at hl 0 rfl) ?_
  refine lv_iload_n hx hb dX4_cordOf_1 rfl (lv_at hl 1 rfl) ?_
  refine z_Vr_eq (As := [.int (nI iz)]) (rest := []) C0 hP hS hl.1 (m_X4_cordAt l _ hX hH hi) lk_X4_53 hX.n0 hX.o rfl rfl (Nat.le_of_ble_eq_true rfl) ⟨Nat.le_of_ble_eq_true rfl, Nat.le_of_ble_eq_true rfl⟩ rfl rfl ⟨Nat.zero_le _, Nat.zero_le _⟩ dX4_cordOf_2 (fun H locs hP hS => ?_)
  refine lv_astore_n (lv' := [(3, .ref (ad (1 + 2 + 4 * iz))), (0, .ref (ad 0)), (1, .int (nI iz)), (2, .int (nI wz))]) hx hb dX4_cordOf_5 rfl hl (by decide) rfl (fun ls hl => ?_)
  refine lv_iload_n hx hb dX4_cordOf_6 rfl (lv_at hl 3 rfl) ?_
  obtain rfl | rfl | rfl | rfl | rfl | rfl | rfl | rfl : wz = 0 ∨ wz = 1 ∨ wz = 2 ∨ wz = 3 ∨ wz = 4 ∨ wz = 5 ∨ wz = 6 ∨ wz = 7 := by omega
  · refine lv_tableIn (tgt := 52) hx hb dX4_cordOf_7 (by decide) (by decide) rfl (by decide) ?_
    refine lv_aload_n hx hb dX4_cordOf_52 rfl (lv_at hl 0 rfl) ?_
    obtain ⟨rw, hG, hrw, hCs⟩ := id hH
    obtain ⟨kn, lo, pa, hC, h1, h2, h3⟩ := hCs iz hi
    refine z_Vi_eq (As := []) (rest := []) C0 hP hS hl.1 (m_X0_told l _ hC) lk_X4_150 hC.n0 hC.o rfl rfl (Nat.le_of_ble_eq_true rfl) ⟨Nat.le_of_ble_eq_true rfl, Nat.le_of_ble_eq_true rfl⟩ rfl rfl ⟨Nat.zero_le _, Nat.zero_le _⟩ dX4_cordOf_53 (fun H locs hP hS => ?_)
    exact z_iret C0 hP hS hr (⟨rfl, tld_congr h1 h2 6⟩) dX4_cordOf_56
  · refine lv_tableIn (tgt := 57) hx hb dX4_cordOf_7 (by decide) (by decide) rfl (by decide) ?_
    refine lv_aload_n hx hb dX4_cordOf_57 rfl (lv_at hl 0 rfl) ?_
    obtain ⟨rw, hG, hrw, hCs⟩ := id hH
    obtain ⟨kn, lo, pa, hC, h1, h2, h3⟩ := hCs iz hi
    have e1 : (fun j => st (6 + 31 * iz + j)) 1 = nI (cm st iz) := (hpc iz hi).1
    rw [e1] at hC
    refine z_Vi_eq (As := []) (rest := []) C0 hP hS hl.1 (m_X0_partsTogether l _ hC (hpc iz hi).2) lk_X4_152 hC.n0 hC.o rfl rfl (Nat.le_of_ble_eq_true rfl) ⟨Nat.le_of_ble_eq_true rfl, Nat.le_of_ble_eq_true rfl⟩ rfl rfl ⟨Nat.zero_le _, Nat.zero_le _⟩ dX4_cordOf_58 (fun H locs hP hS => ?_)
    exact z_iret C0 hP hS hr (⟨rfl, sumN_congr (m := cm st iz) (fun k hk => h3 k (Nat.lt_of_lt_of_le hk (hpc iz hi).2))⟩) dX4_cordOf_61
  · refine lv_tableIn (tgt := 62) hx hb dX4_cordOf_7 (by decide) (by decide) rfl (by decide) ?_
    refine lv_aload_n hx hb dX4_cordOf_62 rfl (lv_at hl 0 rfl) ?_
    obtain ⟨rw, hG, hrw, hCs⟩ := id hH
    obtain ⟨kn, lo, pa, hC, h1, h2, h3⟩ := hCs iz hi
    refine z_get C0 hP hC.n0 hC.o fd_X4_155 rfl dX4_cordOf_63 ?_
    exact z_iret C0 hP hS hr (⟨rfl, rfl⟩) dX4_cordOf_66
  · refine lv_tableIn (tgt := 67) hx hb dX4_cordOf_7 (by decide) (by decide) rfl (by decide) ?_
    refine lv_aload_n hx hb dX4_cordOf_67 rfl (lv_at hl 0 rfl) ?_
    obtain ⟨rw, hG, hrw, hCs⟩ := id hH
    obtain ⟨kn, lo, pa, hC, h1, h2, h3⟩ := hCs iz hi
    have e1 : (fun j => st (6 + 31 * iz + j)) 1 = nI (cm st iz) := (hpc iz hi).1
    rw [e1] at hC
    refine z_Vi_eq (As := []) (rest := []) C0 hP hS hl.1 (m_X0_lack l _ hC (hpc iz hi).2) lk_X4_158 hC.n0 hC.o rfl rfl (Nat.le_of_ble_eq_true rfl) ⟨Nat.le_of_ble_eq_true rfl, Nat.le_of_ble_eq_true rfl⟩ rfl rfl ⟨Nat.zero_le _, Nat.zero_le _⟩ dX4_cordOf_68 (fun H locs hP hS => ?_)
    exact z_iret C0 hP hS hr (⟨rfl, by show _ = cLack st iz; unfold cLack cParts cTold; rw [sumN_congr (m := cm st iz) (fun k hk => h3 k (Nat.lt_of_lt_of_le hk (hpc iz hi).2)), tld_congr h1 h2 6]; rfl⟩) dX4_cordOf_71
  · refine lv_tableIn (tgt := 72) hx hb dX4_cordOf_7 (by decide) (by decide) rfl (by decide) ?_
    refine lv_aload_n hx hb dX4_cordOf_72 rfl (lv_at hl 0 rfl) ?_
    obtain ⟨rw, hG, hrw, hCs⟩ := id hH
    obtain ⟨kn, lo, pa, hC, h1, h2, h3⟩ := hCs iz hi
    refine z_Vi_eq (As := []) (rest := []) C0 hP hS hl.1 (m_X0_ties l _ hC) lk_X4_161 hC.n0 hC.o rfl rfl (Nat.le_of_ble_eq_true rfl) ⟨Nat.le_of_ble_eq_true rfl, Nat.le_of_ble_eq_true rfl⟩ rfl rfl ⟨Nat.zero_le _, Nat.zero_le _⟩ dX4_cordOf_73 (fun H locs hP hS => ?_)
    exact z_iret C0 hP hS hr (⟨rfl, by rw [sumN_congr (m := 6) h1, sumN_congr (m := 6) h2]; rfl⟩) dX4_cordOf_76
  · refine lv_tableIn (tgt := 77) hx hb dX4_cordOf_7 (by decide) (by decide) rfl (by decide) ?_
    refine lv_aload_n hx hb dX4_cordOf_77 rfl (lv_at hl 0 rfl) ?_
    obtain ⟨rw, hG, hrw, hCs⟩ := id hH
    obtain ⟨kn, lo, pa, hC, h1, h2, h3⟩ := hCs iz hi
    refine z_Vi_eq (As := []) (rest := []) C0 hP hS hl.1 (m_X0_allLoops l _ hC) lk_X4_162 hC.n0 hC.o rfl rfl (Nat.le_of_ble_eq_true rfl) ⟨Nat.le_of_ble_eq_true rfl, Nat.le_of_ble_eq_true rfl⟩ rfl rfl ⟨Nat.zero_le _, Nat.zero_le _⟩ dX4_cordOf_78 (fun H locs hP hS => ?_)
    exact z_iret C0 hP hS hr (⟨rfl, sumN_congr (m := 6) h2⟩) dX4_cordOf_81
  · refine lv_tableIn (tgt := 82) hx hb dX4_cordOf_7 (by decide) (by decide) rfl (by decide) ?_
    refine lv_aload_n hx hb dX4_cordOf_82 rfl (lv_at hl 0 rfl) ?_
    obtain ⟨rw, hG, hrw, hCs⟩ := id hH
    obtain ⟨kn, lo, pa, hC, h1, h2, h3⟩ := hCs iz hi
    refine z_get C0 hP hC.n0 hC.o fd_X4_96 rfl dX4_cordOf_83 ?_
    exact z_iret C0 hP hS hr (⟨rfl, rfl⟩) dX4_cordOf_86
  · refine lv_tableIn (tgt := 87) hx hb dX4_cordOf_7 (by decide) (by decide) rfl (by decide) ?_
    refine lv_aload_n hx hb dX4_cordOf_87 rfl (lv_at hl 0 rfl) ?_
    obtain ⟨rw, hG, hrw, hCs⟩ := id hH
    obtain ⟨kn, lo, pa, hC, h1, h2, h3⟩ := hCs iz hi
    refine z_get C0 hP hC.n0 hC.o fd_X4_165 rfl dX4_cordOf_88 ?_
    exact z_iret C0 hP hS hr (⟨rfl, rfl⟩) dX4_cordOf_91
set_option maxHeartbeats 4000000 in
set_option maxRecDepth 100000 in
theorem m_X4_placeOf (l : Launch) {D : va_G} {cy : Nat → ClassId} {K : Nat} {ad : Nat → Nat} {g : Nat → va_E} (sz : Nat) {st : Nat → Int32} {sv : Nat → Nat → Int32} {nx sz2 : Nat} {ns : Nat → Option Nat} {ss : Nat → Nat → Int32} {bu : Nat → Int32} {ln : Nat} {iz jz wz : Nat} (hTT : isT cy K ad g st sv nx sz2 ns ss bu ln) (hi : iz < 7) (hj : jz < 6) (hw : wz < 4) : Met l yX4_placeOf (zs yX4_placeOf cX4_placeOf 5 (some .int)) ({ frames := 3, cells := 0, slots := 0, locals := 81 } : Room) (va_Pc [.ref (ad 0), .int (nI iz), .int (nI jz), .int (nI wz)] (zIn D cy K ad g sz)) (va_Qi (fun r g1 => g1 = g ∧ r = placeF st iz jz wz) (zOut D cy K ad sz) (zA K ad sz)) 0 0 (zA K ad sz) := by
  refine z_met (by decide) (Nat.le_of_ble_eq_true rfl) (fun p e s m below meth c ls hsz hl C0 hr hnm hP hS => ?_)
  subst hsz
  have hl : lv_has ls 5 [(0, .ref (ad 0)), (1, .int (nI iz)), (2, .int (nI jz)), (3, .int (nI wz))] := hl
  have hx := C0.1; have hb := C0.2.1; have hown := C0.2.2.2.1; have hts := C0.2.2.2.2.1
  obtain ⟨sn, tl, rs, x, hX, hH, hHi, hRs, hTr, hSn⟩ := id hTT
  have hR : isR cy K ad g 215 rs.1 rs.2.1 rs.2.2.1 rs.2.2.2.1 rs.2.2.2.2 := hRs
  refine lv_aload_n hx hb dX4_placeOf_0 rfl (lv_at hl 0 rfl) ?_
  refine lv_iload_n hx hb dX4_placeOf_1 rfl (lv_at hl 1 rfl) ?_
  refine z_Vr_eq (As := [.int (nI iz)]) (rest := []) C0 hP hS hl.1 (m_X4_cordAt l _ hX hH hi) lk_X4_53 hX.n0 hX.o rfl rfl (Nat.le_of_ble_eq_true rfl) ⟨Nat.le_of_ble_eq_true rfl, Nat.le_of_ble_eq_true rfl⟩ rfl rfl ⟨Nat.zero_le _, Nat.zero_le _⟩ dX4_placeOf_2 (fun H locs hP hS => ?_)
  refine lv_astore (lv' := [(4, .ref (ad (1 + 2 + 4 * iz))), (0, .ref (ad 0)), (1, .int (nI iz)), (2, .int (nI jz)), (3, .int (nI wz))]) hx hb dX4_placeOf_5 hl (by decide) rfl (fun ls hl => ?_)
  refine lv_iload_n hx hb dX4_placeOf_7 rfl (lv_at hl 3 rfl) ?_
  refine z_Sv_eq (As := [.int (nI jz)]) (rest := []) C0 hP hS hl.1 (m_X4_checkPlace l _ hj) lk_X4_80 rfl rfl (Nat.le_of_ble_eq_true rfl) ⟨Nat.le_of_ble_eq_true rfl, Nat.le_of_ble_eq_true rfl⟩ rfl rfl ⟨Nat.zero_le _, Nat.zero_le _⟩ dX4_placeOf_8 (fun H locs hP hS => ?_)
  refine lv_iload_n hx hb dX4_placeOf_11 rfl (lv_at hl 4 rfl) ?_
  obtain rfl | rfl | rfl | rfl : wz = 0 ∨ wz = 1 ∨ wz = 2 ∨ wz = 3 := by omega
  · refine lv_tableIn (tgt := 44) hx hb dX4_placeOf_12 (by decide) (by decide) rfl (by decide) ?_
    refine lv_aload hx hb dX4_placeOf_44 (lv_at hl 0 rfl) ?_
    obtain ⟨rw, hG, hrw, hCs⟩ := id hH
    obtain ⟨kn, lo, pa, hC, h1, h2, h3⟩ := hCs iz hi
    refine z_get C0 hP hC.n0 hC.o fd_X4_170 rfl dX4_placeOf_46 ?_
    refine lv_iload_n hx hb dX4_placeOf_49 rfl (lv_at hl 3 rfl) ?_
    refine z_iald C0 hP hC.n1 hC.a_kn (zIx_nI (by omega) (by decide)) dX4_placeOf_50 ?_
    exact z_iret C0 hP hS hr (⟨rfl, h1 jz hj⟩) dX4_placeOf_51
  · refine lv_tableIn (tgt := 52) hx hb dX4_placeOf_12 (by decide) (by decide) rfl (by decide) ?_
    refine lv_aload hx hb dX4_placeOf_52 (lv_at hl 0 rfl) ?_
    obtain ⟨rw, hG, hrw, hCs⟩ := id hH
    obtain ⟨kn, lo, pa, hC, h1, h2, h3⟩ := hCs iz hi
    refine z_get C0 hP hC.n0 hC.o fd_X4_173 rfl dX4_placeOf_54 ?_
    refine lv_iload_n hx hb dX4_placeOf_57 rfl (lv_at hl 3 rfl) ?_
    refine z_iald C0 hP hC.n2 hC.a_lo (zIx_nI (by omega) (by decide)) dX4_placeOf_58 ?_
    exact z_iret C0 hP hS hr (⟨rfl, h2 jz hj⟩) dX4_placeOf_59
  · refine lv_tableIn (tgt := 60) hx hb dX4_placeOf_12 (by decide) (by decide) rfl (by decide) ?_
    refine lv_aload hx hb dX4_placeOf_60 (lv_at hl 0 rfl) ?_
    refine lv_iload_n hx hb dX4_placeOf_62 rfl (lv_at hl 3 rfl) ?_
    obtain ⟨rw, hG, hrw, hCs⟩ := id hH
    obtain ⟨kn, lo, pa, hC, h1, h2, h3⟩ := hCs iz hi
    refine z_Vi_eq (As := [.int (nI jz)]) (rest := []) C0 hP hS hl.1 (m_X0_open l _ hC hj) lk_X4_176 hC.n0 hC.o rfl rfl (Nat.le_of_ble_eq_true rfl) ⟨Nat.le_of_ble_eq_true rfl, Nat.le_of_ble_eq_true rfl⟩ rfl rfl ⟨Nat.zero_le _, Nat.zero_le _⟩ dX4_placeOf_63 (fun H locs hP hS => ?_)
    exact z_iret C0 hP hS hr (⟨rfl, opn_congr h1 h2 hj⟩) dX4_placeOf_66
  · refine lv_tableIn (tgt := 67) hx hb dX4_placeOf_12 (by decide) (by decide) rfl (by decide) ?_
    refine lv_iconst (v := 0) hx hb dX4_placeOf_67 (by decide) ?_
    refine lv_aload_n hx hb dX4_placeOf_68 rfl (lv_at hl 1 rfl) ?_
    refine z_get C0 hP hX.n0 hX.o fd_X4_10 rfl dX4_placeOf_69 ?_
    obtain ⟨rw, hG, hrw, hCs⟩ := id hH
    obtain ⟨kn, lo, pa, hC, h1, h2, h3⟩ := hCs iz hi
    refine z_get C0 hP hG.n0 hG.o fd_X4_101 rfl dX4_placeOf_72 ?_
    refine lv_aload hx hb dX4_placeOf_75 (lv_at hl 0 rfl) ?_
    refine lv_iload_n hx hb dX4_placeOf_77 rfl (lv_at hl 3 rfl) ?_
    refine z_Vi_eq (As := [.int (nI jz)]) (rest := [.int (st 5), .int 0]) C0 hP hS hl.1 (m_X0_tiesAt l _ hC hj) lk_X4_180 hC.n0 hC.o rfl rfl (Nat.le_of_ble_eq_true rfl) ⟨Nat.le_of_ble_eq_true rfl, Nat.le_of_ble_eq_true rfl⟩ rfl rfl ⟨Nat.zero_le _, Nat.zero_le _⟩ dX4_placeOf_78 (fun H locs hP hS => ?_)
    refine lv_isub hx hb dX4_placeOf_81 ?_
    refine va_mmax hx hb (C0.2.2.1.trans hl.1.symm) hown (hts _ q475) (hts _ q476) (hts _ q14) (hts _ q477) (Nat.le_of_ble_eq_true rfl) (Nat.le_of_ble_eq_true rfl) (Nat.zero_le _) (Nat.zero_le _) dX4_placeOf_82 ?_
    exact z_iret C0 hP hS hr (⟨rfl, by rw [h1 jz hj, h2 jz hj]; rfl⟩) dX4_placeOf_85
set_option maxHeartbeats 4000000 in
set_option maxRecDepth 100000 in
theorem m_X4_part (l : Launch) {D : va_G} {cy : Nat → ClassId} {K : Nat} {ad : Nat → Nat} {g : Nat → va_E} (sz : Nat) {st : Nat → Int32} {sv : Nat → Nat → Int32} {nx sz2 : Nat} {ns : Nat → Option Nat} {ss : Nat → Nat → Int32} {bu : Nat → Int32} {ln : Nat} {iz : Nat} {rz : Int32} (hTT : isT cy K ad g st sv nx sz2 ns ss bu ln) (hi : iz < 7) (hr0 : 0 ≤ rz) (hpc : pcOK st) : Met l yX4_part (zs yX4_part cX4_part 4 (some .int)) ({ frames := 3, cells := 0, slots := 0, locals := 81 } : Room) (va_Pc [.ref (ad 0), .int (nI iz), .int rz] (zIn D cy K ad g sz)) (va_Qi (fun r g1 => g1 = g ∧ r = partF st iz rz) (zOut D cy K ad sz) (zA K ad sz)) 0 0 (zA K ad sz) := by
  refine z_met (by decide) (Nat.le_of_ble_eq_true rfl) (fun p e s m below meth c ls hsz hl C0 hr hnm hP hS => ?_)
  subst hsz
  have hl : lv_has ls 4 [(0, .ref (ad 0)), (1, .int (nI iz)), (2, .int rz)] := hl
  have hx := C0.1; have hb := C0.2.1; have hown := C0.2.2.2.1; have hts := C0.2.2.2.2.1
  obtain ⟨sn, tl, rs, x, hX, hH, hHi, hRs, hTr, hSn⟩ := id hTT
  have hR : isR cy K ad g 215 rs.1 rs.2.1 rs.2.2.1 rs.2.2.2.1 rs.2.2.2.2 := hRs
  refine lv_aload_n hx hb dX4_part_0 rfl (lv_at hl 0 rfl) ?_
  refine lv_iload_n hx hb dX4_part_1 rfl (lv_at hl 1 rfl) ?_
  refine z_Vr_eq (As := [.int (nI iz)]) (rest := []) C0 hP hS hl.1 (m_X4_cordAt l _ hX hH hi) lk_X4_53 hX.n0 hX.o rfl rfl (Nat.le_of_ble_eq_true rfl) ⟨Nat.le_of_ble_eq_true rfl, Nat.le_of_ble_eq_true rfl⟩ rfl rfl ⟨Nat.zero_le _, Nat.zero_le _⟩ dX4_part_2 (fun H locs hP hS => ?_)
  refine lv_astore_n (lv' := [(3, .ref (ad (1 + 2 + 4 * iz))), (0, .ref (ad 0)), (1, .int (nI iz)), (2, .int rz)]) hx hb dX4_part_5 rfl hl (by decide) rfl (fun ls hl => ?_)
  refine lv_iload_n hx hb dX4_part_6 rfl (lv_at hl 3 rfl) ?_
  refine lv_if_ge (tgt := 20) hx hb dX4_part_7 (by decide) (fun c_7 => ?_) (fun c_7 => absurd hr0 c_7)
  refine lv_iload_n hx hb dX4_part_20 rfl (lv_at hl 3 rfl) ?_
  refine lv_aload_n hx hb dX4_part_21 rfl (lv_at hl 0 rfl) ?_
  obtain ⟨rw, hG, hrw, hCs⟩ := id hH
  obtain ⟨kn, lo, pa, hC, h1, h2, h3⟩ := hCs iz hi
  have e1 : (fun j => st (6 + 31 * iz + j)) 1 = nI (cm st iz) := (hpc iz hi).1
  rw [e1] at hC
  refine z_get C0 hP hC.n0 hC.o fd_X4_155 rfl dX4_part_22 ?_
  refine lv_icmp_ge (tgt := 37) hx hb dX4_part_25 (by decide) (fun c_25 => ?_) (fun c_25 => ?_)
  · refine lv_iconst (v := (-1)) hx hb dX4_part_37 (by decide) ?_
    exact z_iret C0 hP hS hr (⟨rfl, (if_neg (Int32.not_lt.mpr c_25)).symm⟩) dX4_part_38
  · have hq := zIx_cl (len := 16) (Int32.not_lt.mpr hr0) (Int32.not_le.mp c_25) (hpc iz hi).2 (by decide)
    refine lv_aload_n hx hb dX4_part_28 rfl (lv_at hl 0 rfl) ?_
    refine z_get C0 hP hC.n0 hC.o fd_X4_193 rfl dX4_part_29 ?_
    refine lv_iload_n hx hb dX4_part_32 rfl (lv_at hl 3 rfl) ?_
    refine z_iald C0 hP hC.n3 hC.a_pa hq.1 dX4_part_33 ?_
    refine lv_goto (tgt := 38) hx hb dX4_part_34 (by decide) ?_
    exact z_iret C0 hP hS hr (⟨rfl, (h3 _ (Nat.lt_of_lt_of_le hq.2 (hpc iz hi).2)).trans (if_pos (Int32.not_le.mp c_25)).symm⟩) dX4_part_38
set_option maxHeartbeats 4000000 in
set_option maxRecDepth 100000 in
theorem m_X4_count (l : Launch) {D : va_G} {cy : Nat → ClassId} {K : Nat} {ad : Nat → Nat} {g : Nat → va_E} (sz : Nat) {st : Nat → Int32} {sv : Nat → Nat → Int32} {nx sz2 : Nat} {ns : Nat → Option Nat} {ss : Nat → Nat → Int32} {bu : Nat → Int32} {ln : Nat} {wz : Nat} (hTT : isT cy K ad g st sv nx sz2 ns ss bu ln) (hw : wz < 10) (hpc : pcOK st) : Met l yX4_count (zs yX4_count cX4_count 2 (some .int)) ({ frames := 4, cells := 0, slots := 0, locals := 88 } : Room) (va_Pc [.ref (ad 0), .int (nI wz)] (zIn D cy K ad g sz)) (va_Qi (fun r g1 => g1 = g ∧ r = countF st sz2 wz) (zOut D cy K ad sz) (zA K ad sz)) 0 0 (zA K ad sz) := by
  refine z_met (by decide) (Nat.le_of_ble_eq_true rfl) (fun p e s m below meth c ls hsz hl C0 hr hnm hP hS => ?_)
  subst hsz
  have hl : lv_has ls 2 [(0, .ref (ad 0)), (1, .int (nI wz))] := hl
  have hx := C0.1; have hb := C0.2.1; have hown := C0.2.2.2.1; have hts := C0.2.2.2.2.1
  obtain ⟨sn, tl, rs, x, hX, hH, hHi, hRs, hTr, hSn⟩ := id hTT
  have hR : isR cy K ad g 215 rs.1 rs.2.1 rs.2.2.1 rs.2.2.2.1 rs.2.2.2.2 := hRs
  refine lv_iload_n hx hb dX4_count_0 rfl (lv_at hl 1 rfl) ?_
  obtain rfl | rfl | rfl | rfl | rfl | rfl | rfl | rfl | rfl | rfl : wz = 0 ∨ wz = 1 ∨ wz = 2 ∨ wz = 3 ∨ wz = 4 ∨ wz = 5 ∨ wz = 6 ∨ wz = 7 ∨ wz = 8 ∨ wz = 9 := by omega
  · refine lv_tableIn (tgt := 56) hx hb dX4_count_1 (by decide) (by decide) rfl (by decide) ?_
    refine lv_aload_n hx hb dX4_count_56 rfl (lv_at hl 0 rfl) ?_
    refine z_get C0 hP hX.n0 hX.o fd_X4_10 rfl dX4_count_57 ?_
    obtain ⟨fs_60, hfs_60⟩ := hH.rc
    refine z_Vi_eq (As := []) (rest := []) C0 hP hS hl.1 (m_X1_told l _ hH) lk_X4_196 hH.n0 hfs_60 rfl rfl (Nat.le_of_ble_eq_true rfl) ⟨Nat.le_of_ble_eq_true rfl, Nat.le_of_ble_eq_true rfl⟩ rfl rfl ⟨Nat.zero_le _, Nat.zero_le _⟩ dX4_count_60 (fun H locs hP hS => ?_)
    exact z_iret C0 hP hS hr (⟨rfl, rfl⟩) dX4_count_63
  · refine lv_tableIn (tgt := 64) hx hb dX4_count_1 (by decide) (by decide) rfl (by decide) ?_
    refine lv_aload_n hx hb dX4_count_64 rfl (lv_at hl 0 rfl) ?_
    refine z_get C0 hP hX.n0 hX.o fd_X4_10 rfl dX4_count_65 ?_
    obtain ⟨fs_68, hfs_68⟩ := hH.rc
    refine z_Vi_eq (As := []) (rest := []) C0 hP hS hl.1 (m_X1_ties l _ hH) lk_X4_137 hH.n0 hfs_68 rfl rfl (Nat.le_of_ble_eq_true rfl) ⟨Nat.le_of_ble_eq_true rfl, Nat.le_of_ble_eq_true rfl⟩ rfl rfl ⟨Nat.zero_le _, Nat.zero_le _⟩ dX4_count_68 (fun H locs hP hS => ?_)
    exact z_iret C0 hP hS hr (⟨rfl, rfl⟩) dX4_count_71
  · refine lv_tableIn (tgt := 72) hx hb dX4_count_1 (by decide) (by decide) rfl (by decide) ?_
    refine lv_aload_n hx hb dX4_count_72 rfl (lv_at hl 0 rfl) ?_
    refine z_get C0 hP hX.n0 hX.o fd_X4_10 rfl dX4_count_73 ?_
    obtain ⟨rw, hG, hrw, hCs⟩ := id hH
    refine z_get C0 hP hG.n0 hG.o fd_X4_197 rfl dX4_count_76 ?_
    exact z_iret C0 hP hS hr (⟨rfl, rfl⟩) dX4_count_79
  · refine lv_tableIn (tgt := 80) hx hb dX4_count_1 (by decide) (by decide) rfl (by decide) ?_
    refine lv_aload_n hx hb dX4_count_80 rfl (lv_at hl 0 rfl) ?_
    refine z_get C0 hP hX.n0 hX.o fd_X4_10 rfl dX4_count_81 ?_
    obtain ⟨rw, hG, hrw, hCs⟩ := id hH
    refine z_get C0 hP hG.n0 hG.o fd_X4_200 rfl dX4_count_84 ?_
    exact z_iret C0 hP hS hr (⟨rfl, rfl⟩) dX4_count_87
  · refine lv_tableIn (tgt := 88) hx hb dX4_count_1 (by decide) (by decide) rfl (by decide) ?_
    refine lv_aload_n hx hb dX4_count_88 rfl (lv_at hl 0 rfl) ?_
    refine z_get C0 hP hX.n0 hX.o fd_X4_10 rfl dX4_count_89 ?_
    obtain ⟨rw, hG, hrw, hCs⟩ := id hH
    refine z_get C0 hP hG.n0 hG.o fd_X4_203 rfl dX4_count_92 ?_
    exact z_iret C0 hP hS hr (⟨rfl, rfl⟩) dX4_count_95
  · refine lv_tableIn (tgt := 96) hx hb dX4_count_1 (by decide) (by decide) rfl (by decide) ?_
    refine lv_aload_n hx hb dX4_count_96 rfl (lv_at hl 0 rfl) ?_
    refine z_get C0 hP hX.n0 hX.o fd_X4_10 rfl dX4_count_97 ?_
    obtain ⟨rw, hG, hrw, hCs⟩ := id hH
    refine z_get C0 hP hG.n0 hG.o fd_X4_204 rfl dX4_count_100 ?_
    exact z_iret C0 hP hS hr (⟨rfl, rfl⟩) dX4_count_103
  · refine lv_tableIn (tgt := 104) hx hb dX4_count_1 (by decide) (by decide) rfl (by decide) ?_
    refine lv_aload_n hx hb dX4_count_104 rfl (lv_at hl 0 rfl) ?_
    refine z_get C0 hP hX.n0 hX.o fd_X4_10 rfl dX4_count_105 ?_
    obtain ⟨rw, hG, hrw, hCs⟩ := id hH
    refine z_get C0 hP hG.n0 hG.o fd_X4_207 rfl dX4_count_108 ?_
    exact z_iret C0 hP hS hr (⟨rfl, rfl⟩) dX4_count_111
  · refine lv_tableIn (tgt := 112) hx hb dX4_count_1 (by decide) (by decide) rfl (by decide) ?_
    refine lv_aload_n hx hb dX4_count_112 rfl (lv_at hl 0 rfl) ?_
    refine z_get C0 hP hX.n0 hX.o fd_X4_10 rfl dX4_count_113 ?_
    obtain ⟨fs_116, hfs_116⟩ := hH.rc
    refine z_Vi_eq (As := []) (rest := []) C0 hP hS hl.1 (m_X1_lacking l _ hH hpc) lk_X4_210 hH.n0 hfs_116 rfl rfl (Nat.le_of_ble_eq_true rfl) ⟨Nat.le_of_ble_eq_true rfl, Nat.le_of_ble_eq_true rfl⟩ rfl rfl ⟨Nat.zero_le _, Nat.zero_le _⟩ dX4_count_116 (fun H locs hP hS => ?_)
    exact z_iret C0 hP hS hr (⟨rfl, rfl⟩) dX4_count_119
  · refine lv_tableIn (tgt := 120) hx hb dX4_count_1 (by decide) (by decide) rfl (by decide) ?_
    refine lv_aload_n hx hb dX4_count_120 rfl (lv_at hl 0 rfl) ?_
    refine z_get C0 hP hX.n0 hX.o fd_X4_10 rfl dX4_count_121 ?_
    obtain ⟨rw, hG, hrw, hCs⟩ := id hH
    refine z_get C0 hP hG.n0 hG.o fd_X4_101 rfl dX4_count_124 ?_
    exact z_iret C0 hP hS hr (⟨rfl, rfl⟩) dX4_count_127
  · refine lv_tableIn (tgt := 128) hx hb dX4_count_1 (by decide) (by decide) rfl (by decide) ?_
    refine lv_aload_n hx hb dX4_count_128 rfl (lv_at hl 0 rfl) ?_
    refine z_get C0 hP hX.n0 hX.o fd_X4_19 rfl dX4_count_129 ?_
    obtain ⟨rwY, hY, hrwY, hHa⟩ := id hHi
    refine z_get C0 hP hY.n0 hY.o fd_X4_142 rfl dX4_count_132 ?_
    exact z_iret C0 hP hS hr (⟨rfl, rfl⟩) dX4_count_135
set_option maxHeartbeats 4000000 in
set_option maxRecDepth 100000 in
theorem m_X4_byHue (l : Launch) {D : va_G} {cy : Nat → ClassId} {K : Nat} {ad : Nat → Nat} {g : Nat → va_E} (sz : Nat) {st : Nat → Int32} {sv : Nat → Nat → Int32} {nx sz2 : Nat} {ns : Nat → Option Nat} {ss : Nat → Nat → Int32} {bu : Nat → Int32} {ln : Nat} {hu : Int32} (hTT : isT cy K ad g st sv nx sz2 ns ss bu ln) (hu1 : ¬ hu < 0) (hu2 : hu < 6) : Met l yX4_byHue (zs yX4_byHue cX4_byHue 2 (some .int)) ({ frames := 3, cells := 0, slots := 0, locals := 80 } : Room) (va_Pc [.ref (ad 0), .int hu] (zIn D cy K ad g sz)) (va_Qi (fun r g1 => g1 = g ∧ r = sumN (hueN st hu) 7) (zOut D cy K ad sz) (zA K ad sz)) 0 0 (zA K ad sz) := by
  refine z_met (by decide) (Nat.le_of_ble_eq_true rfl) (fun p e s m below meth c ls hsz hl C0 hr hnm hP hS => ?_)
  subst hsz
  have hl : lv_has ls 2 [(0, .ref (ad 0)), (1, .int hu)] := hl
  have hx := C0.1; have hb := C0.2.1; have hown := C0.2.2.2.1; have hts := C0.2.2.2.2.1
  obtain ⟨sn, tl, rs, x, hX, hH, hHi, hRs, hTr, hSn⟩ := id hTT
  have hR : isR cy K ad g 215 rs.1 rs.2.1 rs.2.2.1 rs.2.2.2.1 rs.2.2.2.2 := hRs
  refine lv_iload_n hx hb dX4_byHue_0 rfl (lv_at hl 1 rfl) ?_
  refine z_Sv_eq (As := [.int hu]) (rest := []) C0 hP hS hl.1 (m_X4_checkHue l _ hu1 hu2) lk_X4_93 rfl rfl (Nat.le_of_ble_eq_true rfl) ⟨Nat.le_of_ble_eq_true rfl, Nat.le_of_ble_eq_true rfl⟩ rfl rfl ⟨Nat.zero_le _, Nat.zero_le _⟩ dX4_byHue_1 (fun H locs hP hS => ?_)
  refine lv_aload_n hx hb dX4_byHue_4 rfl (lv_at hl 0 rfl) ?_
  refine z_get C0 hP hX.n0 hX.o fd_X4_10 rfl dX4_byHue_5 ?_
  refine lv_iload_n hx hb dX4_byHue_8 rfl (lv_at hl 1 rfl) ?_
  obtain ⟨fs_9, hfs_9⟩ := hH.rc
  refine z_Vi_eq (As := [.int hu]) (rest := []) C0 hP hS hl.1 (m_X1_toldInHue l _ hH) lk_X4_215 hH.n0 hfs_9 rfl rfl (Nat.le_of_ble_eq_true rfl) ⟨Nat.le_of_ble_eq_true rfl, Nat.le_of_ble_eq_true rfl⟩ rfl rfl ⟨Nat.zero_le _, Nat.zero_le _⟩ dX4_byHue_9 (fun H locs hP hS => ?_)
  exact z_iret C0 hP hS hr (⟨rfl, rfl⟩) dX4_byHue_12
set_option maxHeartbeats 4000000 in
set_option maxRecDepth 100000 in
theorem m_X4_whyNot (l : Launch) {D : va_G} {cy : Nat → ClassId} {K : Nat} {ad : Nat → Nat} {g : Nat → va_E} (sz : Nat) {st : Nat → Int32} {sv : Nat → Nat → Int32} {nx sz2 : Nat} {ns : Nat → Option Nat} {ss : Nat → Nat → Int32} {bu : Nat → Int32} {ln : Nat} {iz : Nat} {num : Int32} (hTT : isT cy K ad g st sv nx sz2 ns ss bu ln) (hi : iz < 7) (hn1 : ¬ num < 1) (hn2 : num ≤ 999999) (hpc : pcOK st) : Met l yX4_whyNot (zs yX4_whyNot cX4_whyNot 4 (some .int)) ({ frames := 4, cells := 0, slots := 0, locals := 93 } : Room) (va_Pc [.ref (ad 0), .int (nI iz), .int num] (zIn D cy K ad g sz)) (va_Qi (fun r g1 => g1 = g ∧ r = cRop st iz num) (zOut D cy K ad sz) (zA K ad sz)) 0 0 (zA K ad sz) := by
  refine z_met (by decide) (Nat.le_of_ble_eq_true rfl) (fun p e s m below meth c ls hsz hl C0 hr hnm hP hS => ?_)
  subst hsz
  have hl : lv_has ls 4 [(0, .ref (ad 0)), (1, .int (nI iz)), (2, .int num)] := hl
  have hx := C0.1; have hb := C0.2.1; have hown := C0.2.2.2.1; have hts := C0.2.2.2.2.1
  obtain ⟨sn, tl, rs, x, hX, hH, hHi, hRs, hTr, hSn⟩ := id hTT
  have hR : isR cy K ad g 215 rs.1 rs.2.1 rs.2.2.1 rs.2.2.2.1 rs.2.2.2.2 := hRs
  refine lv_aload_n hx hb dX4_whyNot_0 rfl (lv_at hl 0 rfl) ?_
  refine lv_iload_n hx hb dX4_whyNot_1 rfl (lv_at hl 1 rfl) ?_
  refine z_Vr_eq (As := [.int (nI iz)]) (rest := []) C0 hP hS hl.1 (m_X4_cordAt l _ hX hH hi) lk_X4_53 hX.n0 hX.o rfl rfl (Nat.le_of_ble_eq_true rfl) ⟨Nat.le_of_ble_eq_true rfl, Nat.le_of_ble_eq_true rfl⟩ rfl rfl ⟨Nat.zero_le _, Nat.zero_le _⟩ dX4_whyNot_2 (fun H locs hP hS => ?_)
  refine lv_astore_n (lv' := [(3, .ref (ad (1 + 2 + 4 * iz))), (0, .ref (ad 0)), (1, .int (nI iz)), (2, .int num)]) hx hb dX4_whyNot_5 rfl hl (by decide) rfl (fun ls hl => ?_)
  refine lv_iload_n hx hb dX4_whyNot_6 rfl (lv_at hl 3 rfl) ?_
  refine z_Sv_eq (As := [.int num]) (rest := []) C0 hP hS hl.1 (m_X4_checkNumber l _ hn1 hn2) lk_X4_57 rfl rfl (Nat.le_of_ble_eq_true rfl) ⟨Nat.le_of_ble_eq_true rfl, Nat.le_of_ble_eq_true rfl⟩ rfl rfl ⟨Nat.zero_le _, Nat.zero_le _⟩ dX4_whyNot_7 (fun H locs hP hS => ?_)
  refine lv_aload_n hx hb dX4_whyNot_10 rfl (lv_at hl 0 rfl) ?_
  refine lv_iload_n hx hb dX4_whyNot_11 rfl (lv_at hl 3 rfl) ?_
  refine lv_aload_n hx hb dX4_whyNot_12 rfl (lv_at hl 1 rfl) ?_
  refine z_get C0 hP hX.n0 hX.o fd_X4_10 rfl dX4_whyNot_13 ?_
  obtain ⟨rw, hG, hrw, hCs⟩ := id hH
  obtain ⟨kn, lo, pa, hC, h1, h2, h3⟩ := hCs iz hi
  have e1 : (fun j => st (6 + 31 * iz + j)) 1 = nI (cm st iz) := (hpc iz hi).1
  rw [e1] at hC
  refine z_get C0 hP hG.n0 hG.o fd_X4_101 rfl dX4_whyNot_16 ?_
  refine z_Vi_eq (As := [.int num, .int (st 5)]) (rest := []) C0 hP hS hl.1 (m_X0_refusalOfPart l _ hC (hpc iz hi).2) lk_X4_218 hC.n0 hC.o rfl rfl (Nat.le_of_ble_eq_true rfl) ⟨Nat.le_of_ble_eq_true rfl, Nat.le_of_ble_eq_true rfl⟩ rfl rfl ⟨Nat.zero_le _, Nat.zero_le _⟩ dX4_whyNot_19 (fun H locs hP hS => ?_)
  exact z_iret C0 hP hS hr (⟨rfl, rop_congr h1 h2⟩) dX4_whyNot_22
set_option maxHeartbeats 4000000 in
set_option maxRecDepth 100000 in
theorem m_X4_fullest (l : Launch) {D : va_G} {cy : Nat → ClassId} {K : Nat} {ad : Nat → Nat} {g : Nat → va_E} (sz : Nat) {st : Nat → Int32} {sv : Nat → Nat → Int32} {nx sz2 : Nat} {ns : Nat → Option Nat} {ss : Nat → Nat → Int32} {bu : Nat → Int32} {ln : Nat}  (hTT : isT cy K ad g st sv nx sz2 ns ss bu ln) : Met l yX4_fullest (zs yX4_fullest cX4_fullest 1 (some .int)) ({ frames := 4, cells := 0, slots := 0, locals := 85 } : Room) (va_Pc [.ref (ad 0)] (zIn D cy K ad g sz)) (va_Qi (fun r g1 => g1 = g ∧ r = nI (fulN st 6)) (zOut D cy K ad sz) (zA K ad sz)) 0 0 (zA K ad sz) := by
  refine z_met (by decide) (Nat.le_of_ble_eq_true rfl) (fun p e s m below meth c ls hsz hl C0 hr hnm hP hS => ?_)
  subst hsz
  have hl : lv_has ls 1 [(0, .ref (ad 0))] := hl
  have hx := C0.1; have hb := C0.2.1; have hown := C0.2.2.2.1; have hts := C0.2.2.2.2.1
  obtain ⟨sn, tl, rs, x, hX, hH, hHi, hRs, hTr, hSn⟩ := id hTT
  have hR : isR cy K ad g 215 rs.1 rs.2.1 rs.2.2.1 rs.2.2.2.1 rs.2.2.2.2 := hRs
  refine lv_aload_n hx hb dX4_fullest_0 rfl (lv_at hl 0 rfl) ?_
  refine z_get C0 hP hX.n0 hX.o fd_X4_10 rfl dX4_fullest_1 ?_
  obtain ⟨fs_4, hfs_4⟩ := hH.rc
  refine z_Vi_eq (As := []) (rest := []) C0 hP hS hl.1 (m_X1_fullestCord l _ hH) lk_X4_244 hH.n0 hfs_4 rfl rfl (Nat.le_of_ble_eq_true rfl) ⟨Nat.le_of_ble_eq_true rfl, Nat.le_of_ble_eq_true rfl⟩ rfl rfl ⟨Nat.zero_le _, Nat.zero_le _⟩ dX4_fullest_4 (fun H locs hP hS => ?_)
  exact z_iret C0 hP hS hr (⟨rfl, rfl⟩) dX4_fullest_7
set_option maxHeartbeats 4000000 in
set_option maxRecDepth 100000 in
theorem m_X4_howOften (l : Launch) {D : va_G} {cy : Nat → ClassId} {K : Nat} {ad : Nat → Nat} {g : Nat → va_E} (sz : Nat) {st : Nat → Int32} {sv : Nat → Nat → Int32} {nx sz2 : Nat} {ns : Nat → Option Nat} {ss : Nat → Nat → Int32} {bu : Nat → Int32} {ln : Nat} {iz : Nat} {num : Int32} (hTT : isT cy K ad g st sv nx sz2 ns ss bu ln) (hi : iz < 7) (hn1 : ¬ num < 1) (hn2 : num ≤ 999999) (hpc : pcOK st) : Met l yX4_howOften (zs yX4_howOften cX4_howOften 5 (some .int)) ({ frames := 4, cells := 0, slots := 0, locals := 93 } : Room) (va_Pc [.ref (ad 0), .int (nI iz), .int num] (zIn D cy K ad g sz)) (va_Qi (fun r g1 => r = nI (hoN num (st 5) 16 (fK st iz) (fL st iz) (cm st iz)) ∧ isT cy K ad g1 st sv nx sz2 ns ss bu ln ∧ zFr zCl g g1) (zOut D cy K ad sz) (zA K ad sz)) 0 0 (zA K ad sz) := by
  refine z_met (by decide) (Nat.le_of_ble_eq_true rfl) (fun p e s m below meth c ls hsz hl C0 hr hnm hP hS => ?_)
  subst hsz
  have hl : lv_has ls 5 [(0, .ref (ad 0)), (1, .int (nI iz)), (2, .int num)] := hl
  have hx := C0.1; have hb := C0.2.1; have hown := C0.2.2.2.1; have hts := C0.2.2.2.2.1
  have hFr : zFr (zCl) g g := zFr.rf
  obtain ⟨sn, tl, rs, x, hX, hH, hHi, hRs, hTr, hSn⟩ := id hTT
  have hR : isR cy K ad g 215 rs.1 rs.2.1 rs.2.2.1 rs.2.2.2.1 rs.2.2.2.2 := hRs
  refine lv_aload_n hx hb dX4_howOften_0 rfl (lv_at hl 0 rfl) ?_
  refine lv_iload_n hx hb dX4_howOften_1 rfl (lv_at hl 1 rfl) ?_
  refine z_Vr_eq (As := [.int (nI iz)]) (rest := []) C0 hP hS hl.1 (m_X4_cordAt l _ hX hH hi) lk_X4_53 hX.n0 hX.o rfl rfl (Nat.le_of_ble_eq_true rfl) ⟨Nat.le_of_ble_eq_true rfl, Nat.le_of_ble_eq_true rfl⟩ rfl rfl ⟨Nat.zero_le _, Nat.zero_le _⟩ dX4_howOften_2 (fun H locs hP hS => ?_)
  refine lv_astore_n (lv' := [(3, .ref (ad (1 + 2 + 4 * iz))), (0, .ref (ad 0)), (1, .int (nI iz)), (2, .int num)]) hx hb dX4_howOften_5 rfl hl (by decide) rfl (fun ls hl => ?_)
  refine lv_iload_n hx hb dX4_howOften_6 rfl (lv_at hl 3 rfl) ?_
  refine z_Sv_eq (As := [.int num]) (rest := []) C0 hP hS hl.1 (m_X4_checkNumber l _ hn1 hn2) lk_X4_57 rfl rfl (Nat.le_of_ble_eq_true rfl) ⟨Nat.le_of_ble_eq_true rfl, Nat.le_of_ble_eq_true rfl⟩ rfl rfl ⟨Nat.zero_le _, Nat.zero_le _⟩ dX4_howOften_7 (fun H locs hP hS => ?_)
  refine lv_aload_n hx hb dX4_howOften_10 rfl (lv_at hl 1 rfl) ?_
  refine z_get C0 hP hX.n0 hX.o fd_X4_45 rfl dX4_howOften_11 ?_
  refine lv_aload_n hx hb dX4_howOften_14 rfl (lv_at hl 0 rfl) ?_
  obtain ⟨rw, hG, hrw, hCs⟩ := id hH
  obtain ⟨kn, lo, pa, hC, h1, h2, h3⟩ := hCs iz hi
  have e1 : (fun j => st (6 + 31 * iz + j)) 1 = nI (cm st iz) := (hpc iz hi).1
  rw [e1] at hC
  obtain ⟨knT, loT, paT, hTC, hT1, hT2, hT3⟩ := hTr
  refine z_Vv_mo (As := [.ref (ad (1 + 2 + 4 * iz))]) (rest := []) C0 hP hS hl.1 (m_X0_copyFrom l _ hTC hC (by omega)) lk_X4_221 hTC.n0 hTC.o rfl rfl (Nat.le_of_ble_eq_true rfl) ⟨Nat.le_of_ble_eq_true rfl, Nat.le_of_ble_eq_true rfl⟩ rfl rfl ⟨Nat.zero_le _, Nat.zero_le _⟩ dX4_howOften_15 (fun g_1 H locs hP hS hp => ?_)
  obtain ⟨hTC, hF1⟩ := hp
  have hX := hX.kept hF1 (by first | (dsimp only [zOne, zRg, zCl]; omega) | (dsimp only; omega) | omega)
  have hH := hH.kept hF1 (by intro z9 h8 h9; first | (dsimp only [zOne, zRg, zCl]; omega) | (dsimp only; omega) | omega)
  have hHi := hHi.kept hF1 (by intro z9 h8 h9; first | (dsimp only [zOne, zRg, zCl]; omega) | (dsimp only; omega) | omega)
  have hR := hR.kept hF1 (by first | (dsimp only [zOne, zRg, zCl]; omega) | (dsimp only; omega) | omega)
  have hSn := hSn.kept hF1 (by intro z9 h8; first | (dsimp only [zOne, zRg, zCl]; omega) | (dsimp only; omega) | omega)
  have hG := hG.kept hF1 (by first | (dsimp only [zOne, zRg, zCl]; omega) | (dsimp only; omega) | omega)
  have hC := hC.kept hF1 (by first | (dsimp only [zOne, zRg, zCl]; omega) | (dsimp only; omega) | omega)
  have hFr := hFr.tr (hF1.mono (by intro x9 hx9; first | (dsimp only [zOne, zRg, zCl] at hx9 ⊢; omega) | (dsimp only at hx9 ⊢; omega) | omega))
  have i1 : ∀ p, p < 6 → va_cpy kn knT 0 0 6 p = fK st iz p := fun p hp => (sb_cpy0 hp).trans (h1 p hp)
  have i2 : ∀ p, p < 6 → va_cpy lo loT 0 0 6 p = fL st iz p := fun p hp => (sb_cpy0 hp).trans (h2 p hp)
  have hO0 := hoN_congr num (st 5) 16 (m := cm st iz) i1 i2
  refine lv_iconst (v := 0) hx hb dX4_howOften_18 (by decide) ?_
  refine lv_istore (lv' := [(4, .int 0), (3, .ref (ad (1 + 2 + 4 * iz))), (0, .ref (ad 0)), (1, .int (nI iz)), (2, .int num)]) hx hb dX4_howOften_19 hl (by decide) rfl (fun ls hl => ?_)
  have lp_21 : ∀ (N : Nat) (tz m3 : Nat) (k3 l3 p3 : Nat → Int32) (h9 s9 : Int32) (ht : tz ≤ 16) (hm : m3 ≤ 16) (hO : tz + hoN num (st 5) (16 - tz) k3 l3 m3 = hoN num (st 5) 16 (fK st iz) (fL st iz) (cm st iz)), 16 - tz < N → ∀ (g_2 : Nat → va_E) (H : Heap) (locs : List Loc) (ls : Array Slot), zP D K ad g_2 (zA K ad s.heap.size) H → va_S (zA K ad s.heap.size) s.heap H locs → isX cy K ad g_2 0 sn bu tl (nI ln) → isH cy K ad g_2 1 st → isHi cy K ad g_2 31 sv nx sz2 → isR cy K ad g_2 215 rs.1 rs.2.1 rs.2.2.1 rs.2.2.2.1 rs.2.2.2.2 → isSn cy K ad g_2 sn ns ss → isC cy K ad g_2 216 k3 l3 p3 (nI m3) h9 s9 → zFr (zCl) g g_2 → lv_has ls 5 [(0, .ref (ad 0)), (2, .int num), (4, .int (nI tz))] → W p l e ({ frames := 4, cells := 0, slots := 0, locals := 93 } : Room) s m [.ref (ad 0), .int (nI iz), .int num].toArray below meth c H locs 0 0 (MQ below (va_Qi (fun r g1 => r = nI (hoN num (st 5) 16 (fK st iz) (fL st iz) (cm st iz)) ∧ isT cy K ad g1 st sv nx sz2 ns ss bu ln ∧ zFr zCl g g1) (zOut D cy K ad s.heap.size) (zA K ad s.heap.size)) [.ref (ad 0), .int (nI iz), .int num].toArray s 0 0 (zA K ad s.heap.size)) (F0 m 21 ls []) := by
    intro N
    induction N with
    | zero => intro tz m3 k3 l3 p3 h9 s9 ht hm hO hN; exact absurd hN (Nat.not_lt_zero _)
    | succ N ih_21 =>
      intro tz m3 k3 l3 p3 h9 s9 ht hm hO hN g_2 H locs ls hP hS hX hH hHi hR hSn hTC hFr hl
      refine lv_iload hx hb dX4_howOften_21 (lv_at hl 2 rfl) ?_
      refine lv_bipush (v := 16) hx hb dX4_howOften_23 (by decide) ?_
      refine lv_icmp_ge (tgt := 60) hx hb dX4_howOften_25 (by decide) (fun c_25 => ?_) (fun c_25 => ?_)
      · have ht2 : tz = 16 := by have := z_ge_t (b := 16) c_25 (by omega) (by omega); omega
        subst ht2
        refine lv_iload hx hb dX4_howOften_60 (lv_at hl 2 rfl) ?_
        exact z_iret C0 hP hS hr (by first | exact ⟨congrArg nI hO2, ⟨_, _, rs, fun j => if j = 0 then h9 else if j = 1 then nI m3 else if j = 2 then s9 else if j < 19 then p3 (j - 3) else if j < 25 then k3 (j - 19) else l3 (j - 25), hX, hH, hHi, hR, ⟨_, _, _, hTC, zho1, zho2, zho3⟩, hSn⟩, hFr⟩ | exact ⟨congrArg nI hO, ⟨_, _, rs, fun j => if j = 0 then h9 else if j = 1 then nI m3 else if j = 2 then s9 else if j < 19 then p3 (j - 3) else if j < 25 then k3 (j - 19) else l3 (j - 25), hX, hH, hHi, hR, ⟨_, _, _, hTC, zho1, zho2, zho3⟩, hSn⟩, hFr⟩) dX4_howOften_62
      · have ht2 : tz < 16 := z_ge_f (b := 16) c_25 (by omega) (by omega)
        obtain ⟨f3, hf3⟩ : ∃ f3, 16 - tz = f3 + 1 := ⟨15 - tz, by omega⟩
        rw [hf3] at hO
        refine lv_aload_n hx hb dX4_howOften_28 rfl (lv_at hl 0 rfl) ?_
        refine z_get C0 hP hX.n0 hX.o fd_X4_45 rfl dX4_howOften_29 ?_
        refine lv_iload_n hx hb dX4_howOften_32 rfl (lv_at hl 1 rfl) ?_
        refine lv_aload_n hx hb dX4_howOften_33 rfl (lv_at hl 0 rfl) ?_
        refine z_get C0 hP hX.n0 hX.o fd_X4_10 rfl dX4_howOften_34 ?_
        obtain ⟨rw, hG, hrw, hCs⟩ := id hH
        refine z_get C0 hP hG.n0 hG.o fd_X4_101 rfl dX4_howOften_37 ?_
        refine z_Vi_eq (As := [.int num, .int (st 5)]) (rest := []) C0 hP hS hl.1 (m_X0_refusalOfPart l _ hTC hm) lk_X4_218 hTC.n0 hTC.o rfl rfl (Nat.le_of_ble_eq_true rfl) ⟨Nat.le_of_ble_eq_true rfl, Nat.le_of_ble_eq_true rfl⟩ rfl rfl ⟨Nat.zero_le _, Nat.zero_le _⟩ dX4_howOften_40 (fun H locs hP hS => ?_)
        refine lv_if_ne (tgt := 60) hx hb dX4_howOften_43 (by decide) (fun c_43 => ?_) (fun c_43 => ?_)
        · have hO2 : tz = hoN num (st 5) 16 (fK st iz) (fL st iz) (cm st iz) := by rw [← hO, show hoN num (st 5) (f3 + 1) k3 l3 m3 = 0 from if_neg c_43, Nat.add_zero]
          refine lv_iload hx hb dX4_howOften_60 (lv_at hl 2 rfl) ?_
          exact z_iret C0 hP hS hr (by first | exact ⟨congrArg nI hO2, ⟨_, _, rs, fun j => if j = 0 then h9 else if j = 1 then nI m3 else if j = 2 then s9 else if j < 19 then p3 (j - 3) else if j < 25 then k3 (j - 19) else l3 (j - 25), hX, hH, hHi, hR, ⟨_, _, _, hTC, zho1, zho2, zho3⟩, hSn⟩, hFr⟩ | exact ⟨congrArg nI hO, ⟨_, _, rs, fun j => if j = 0 then h9 else if j = 1 then nI m3 else if j = 2 then s9 else if j < 19 then p3 (j - 3) else if j < 25 then k3 (j - 19) else l3 (j - 25), hX, hH, hHi, hR, ⟨_, _, _, hTC, zho1, zho2, zho3⟩, hSn⟩, hFr⟩) dX4_howOften_62
        · have hO2 : tz + 1 + hoN num (st 5) (16 - (tz + 1)) (tK k3 l3 num 6) (tL k3 l3 num 6) (m3 + 1) = hoN num (st 5) 16 (fK st iz) (fL st iz) (cm st iz) := by rw [← hO, show hoN num (st 5) (f3 + 1) k3 l3 m3 = hoN num (st 5) f3 (tK k3 l3 num 6) (tL k3 l3 num 6) (m3 + 1) + 1 from if_pos c_43, show 16 - (tz + 1) = f3 by omega]; omega
          refine lv_aload_n hx hb dX4_howOften_46 rfl (lv_at hl 0 rfl) ?_
          refine z_get C0 hP hX.n0 hX.o fd_X4_45 rfl dX4_howOften_47 ?_
          refine lv_iload_n hx hb dX4_howOften_50 rfl (lv_at hl 1 rfl) ?_
          refine z_Vv_mo (As := [.int num]) (rest := []) C0 hP hS hl.1 (m_X0_tieAsPart l _ hTC (rop_lt c_43)) lk_X4_224 hTC.n0 hTC.o rfl rfl (Nat.le_of_ble_eq_true rfl) ⟨Nat.le_of_ble_eq_true rfl, Nat.le_of_ble_eq_true rfl⟩ rfl rfl ⟨Nat.zero_le _, Nat.zero_le _⟩ dX4_howOften_51 (fun g_3 H locs hP hS hp => ?_)
          obtain ⟨hTC, hF1⟩ := hp
          have hX := hX.kept hF1 (by first | (dsimp only [zOne, zRg, zCl]; omega) | (dsimp only; omega) | omega)
          have hH := hH.kept hF1 (by intro z9 h8 h9; first | (dsimp only [zOne, zRg, zCl]; omega) | (dsimp only; omega) | omega)
          have hHi := hHi.kept hF1 (by intro z9 h8 h9; first | (dsimp only [zOne, zRg, zCl]; omega) | (dsimp only; omega) | omega)
          have hR := hR.kept hF1 (by first | (dsimp only [zOne, zRg, zCl]; omega) | (dsimp only; omega) | omega)
          have hSn := hSn.kept hF1 (by intro z9 h8; first | (dsimp only [zOne, zRg, zCl]; omega) | (dsimp only; omega) | omega)
          have hFr := hFr.tr (hF1.mono (by intro x9 hx9; first | (dsimp only [zOne, zRg, zCl] at hx9 ⊢; omega) | (dsimp only at hx9 ⊢; omega) | omega))
          refine lv_iinc (v := nI (tz + 1)) (lv' := [(4, .int (nI (tz + 1))), (0, .ref (ad 0)), (2, .int num)]) hx hb dX4_howOften_54 hl (k := 2) rfl (z_inc _) (by decide) rfl (fun ls hl => ?_)
          refine lv_goto (tgt := 21) hx hb dX4_howOften_57 (by decide) ?_
          exact ih_21 (tz + 1) (m3 + 1) _ _ _ _ _ ht2 (rop_lt c_43 : m3 < 16) hO2 (by omega) _ _ _ _ hP hS hX hH hHi hR hSn hTC hFr (lv_sub hl [1, 2, 0] rfl)
  exact lp_21 _ 0 (cm st iz) (va_cpy kn knT 0 0 6) (va_cpy lo loT 0 0 6) (va_cpy pa paT 0 0 16) ((fun j => st (6 + 31 * iz + j)) 0) ((fun j => st (6 + 31 * iz + j)) 2) (Nat.zero_le _) ((hpc iz hi).2) (by rw [Nat.zero_add, hO0]) (Nat.lt_succ_self _) _ _ _ _ hP hS hX hH hHi hR hSn hTC hFr (lv_sub hl [2, 4, 0] rfl)
