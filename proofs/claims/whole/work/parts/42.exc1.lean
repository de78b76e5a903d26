set_option maxHeartbeats 4000000 in
set_option maxRecDepth 100000 in
theorem x_X4_cordAt_iob (l : Launch) (hfl : l.stackTraces = false) {D : va_G} {cy : Nat → ClassId} {K : Nat} {ad : Nat → Nat} {g : Nat → va_E} (sz : Nat) {xz : Int32} (hbd : xz < 0 ∨ 7 ≤ xz) : zXM l yX4_cordAt cX4_cordAt 2 (some (.object "HerdCords$Cord")) ({ frames := 8, cells := 1, slots := 6, locals := 100 } : Room) [.ref (ad 0), .int xz] D cy K ad g sz zIOB := by
  refine z_metX (by decide) (Nat.le_of_ble_eq_true rfl) (fun p e s m below meth c ls hsz hl C0 hex hT hP hS => ?_)
  subst hsz
  have hl : lv_has ls 2 [(0, .ref (ad 0)), (1, .int xz)] := hl
  have hx := C0.1; have hb := C0.2.1; have hown := C0.2.2.2.1; have hts := C0.2.2.2.2.1
  refine lv_iload_n hx hb dX4_cordAt_0 rfl (lv_at hl 1 rfl) ?_
  refine lv_if_lt (tgt := 10) hx hb dX4_cordAt_1 (by decide) (fun c_1 => ?_) (fun c_1 => ?_)
  · exact z_throwW C0 rfl hfl hex hT hP hS hl.1 (text := "no such cord") thf_iob (by decide +kernel) dX4_cordAt_10 dX4_cordAt_13 dX4_cordAt_14 dX4_cordAt_17 dX4_cordAt_20 (Nat.le_of_ble_eq_true rfl) (Nat.le_of_ble_eq_true rfl) (Nat.le_of_ble_eq_true rfl) (Nat.le_of_ble_eq_true rfl) (Nat.le_of_ble_eq_true rfl) (Nat.le_of_ble_eq_true rfl) (Nat.le_of_ble_eq_true rfl)
  · refine lv_iload_n hx hb dX4_cordAt_4 rfl (lv_at hl 1 rfl) ?_
    refine lv_bipush (v := 7) hx hb dX4_cordAt_5 (by decide) ?_
    refine lv_icmp_lt (tgt := 21) hx hb dX4_cordAt_7 (by decide) (fun c_7 => (zbad1 hbd c_1 c_7).elim) (fun c_7 => ?_)
    exact z_throwW C0 rfl hfl hex hT hP hS hl.1 (text := "no such cord") thf_iob (by decide +kernel) dX4_cordAt_10 dX4_cordAt_13 dX4_cordAt_14 dX4_cordAt_17 dX4_cordAt_20 (Nat.le_of_ble_eq_true rfl) (Nat.le_of_ble_eq_true rfl) (Nat.le_of_ble_eq_true rfl) (Nat.le_of_ble_eq_true rfl) (Nat.le_of_ble_eq_true rfl) (Nat.le_of_ble_eq_true rfl) (Nat.le_of_ble_eq_true rfl)
set_option maxHeartbeats 4000000 in
set_option maxRecDepth 100000 in
theorem x_X4_checkPlace_iob (l : Launch) (hfl : l.stackTraces = false) {D : va_G} {cy : Nat → ClassId} {K : Nat} {ad : Nat → Nat} {g : Nat → va_E} (sz : Nat) {xz : Int32} (hbd : xz < 0 ∨ 6 ≤ xz) : zXM l yX4_checkPlace cX4_checkPlace 1 none ({ frames := 8, cells := 1, slots := 6, locals := 100 } : Room) [.int xz] D cy K ad g sz zIOB := by
  refine z_metX (by decide) (Nat.le_of_ble_eq_true rfl) (fun p e s m below meth c ls hsz hl C0 hex hT hP hS => ?_)
  subst hsz
  have hl : lv_has ls 1 [(0, .int xz)] := hl
  have hx := C0.1; have hb := C0.2.1; have hown := C0.2.2.2.1; have hts := C0.2.2.2.2.1
  refine lv_iload_n hx hb dX4_checkPlace_0 rfl (lv_at hl 0 rfl) ?_
  refine lv_if_lt (tgt := 10) hx hb dX4_checkPlace_1 (by decide) (fun c_1 => ?_) (fun c_1 => ?_)
  · exact z_throwW C0 rfl hfl hex hT hP hS hl.1 (text := "no such place") thf_iob (by decide +kernel) dX4_checkPlace_10 dX4_checkPlace_13 dX4_checkPlace_14 dX4_checkPlace_17 dX4_checkPlace_20 (Nat.le_of_ble_eq_true rfl) (Nat.le_of_ble_eq_true rfl) (Nat.le_of_ble_eq_true rfl) (Nat.le_of_ble_eq_true rfl) (Nat.le_of_ble_eq_true rfl) (Nat.le_of_ble_eq_true rfl) (Nat.le_of_ble_eq_true rfl)
  · refine lv_iload_n hx hb dX4_checkPlace_4 rfl (lv_at hl 0 rfl) ?_
    refine lv_bipush (v := 6) hx hb dX4_checkPlace_5 (by decide) ?_
    refine lv_icmp_lt (tgt := 21) hx hb dX4_checkPlace_7 (by decide) (fun c_7 => (zbad1 hbd c_1 c_7).elim) (fun c_7 => ?_)
    exact z_throwW C0 rfl hfl hex hT hP hS hl.1 (text := "no such place") thf_iob (by decide +kernel) dX4_checkPlace_10 dX4_checkPlace_13 dX4_checkPlace_14 dX4_checkPlace_17 dX4_checkPlace_20 (Nat.le_of_ble_eq_true rfl) (Nat.le_of_ble_eq_true rfl) (Nat.le_of_ble_eq_true rfl) (Nat.le_of_ble_eq_true rfl) (Nat.le_of_ble_eq_true rfl) (Nat.le_of_ble_eq_true rfl) (Nat.le_of_ble_eq_true rfl)
set_option maxHeartbeats 4000000 in
set_option maxRecDepth 100000 in
theorem x_X4_checkNumber_iae (l : Launch) (hfl : l.stackTraces = false) {D : va_G} {cy : Nat → ClassId} {K : Nat} {ad : Nat → Nat} {g : Nat → va_E} (sz : Nat) {num : Int32} (hbd : num < 1 ∨ 999999 < num) : zXM l yX4_checkNumber cX4_checkNumber 1 none ({ frames := 8, cells := 1, slots := 6, locals := 100 } : Room) [.int num] D cy K ad g sz zIAE := by
  refine z_metX (by decide) (Nat.le_of_ble_eq_true rfl) (fun p e s m below meth c ls hsz hl C0 hex hT hP hS => ?_)
  subst hsz
  have hl : lv_has ls 1 [(0, .int num)] := hl
  have hx := C0.1; have hb := C0.2.1; have hown := C0.2.2.2.1; have hts := C0.2.2.2.2.1
  refine lv_iload_n hx hb dX4_checkNumber_0 rfl (lv_at hl 0 rfl) ?_
  refine lv_iconst (v := 1) hx hb dX4_checkNumber_1 (by decide) ?_
  refine lv_icmp_lt (tgt := 12) hx hb dX4_checkNumber_2 (by decide) (fun c_2 => ?_) (fun c_2 => ?_)
  · exact z_throwW C0 rfl hfl hex hT hP hS hl.1 (text := "no such number") thf_iae (by decide +kernel) dX4_checkNumber_12 dX4_checkNumber_15 dX4_checkNumber_16 dX4_checkNumber_19 dX4_checkNumber_22 (Nat.le_of_ble_eq_true rfl) (Nat.le_of_ble_eq_true rfl) (Nat.le_of_ble_eq_true rfl) (Nat.le_of_ble_eq_true rfl) (Nat.le_of_ble_eq_true rfl) (Nat.le_of_ble_eq_true rfl) (Nat.le_of_ble_eq_true rfl)
  · refine lv_iload_n hx hb dX4_checkNumber_5 rfl (lv_at hl 0 rfl) ?_
    refine lv_ldcw hx hb hown (hts _ q475) dX4_checkNumber_6 ?_
    refine lv_icmp_le (tgt := 23) hx hb dX4_checkNumber_9 (by decide) (fun c_9 => (zbad2 hbd c_2 c_9).elim) (fun c_9 => ?_)
    exact z_throwW C0 rfl hfl hex hT hP hS hl.1 (text := "no such number") thf_iae (by decide +kernel) dX4_checkNumber_12 dX4_checkNumber_15 dX4_checkNumber_16 dX4_checkNumber_19 dX4_checkNumber_22 (Nat.le_of_ble_eq_true rfl) (Nat.le_of_ble_eq_true rfl) (Nat.le_of_ble_eq_true rfl) (Nat.le_of_ble_eq_true rfl) (Nat.le_of_ble_eq_true rfl) (Nat.le_of_ble_eq_true rfl) (Nat.le_of_ble_eq_true rfl)
set_option maxHeartbeats 4000000 in
set_option maxRecDepth 100000 in
theorem x_X4_checkHue_iae (l : Launch) (hfl : l.stackTraces = false) {D : va_G} {cy : Nat → ClassId} {K : Nat} {ad : Nat → Nat} {g : Nat → va_E} (sz : Nat) {xz : Int32} (hbd : xz < 0 ∨ 6 ≤ xz) : zXM l yX4_checkHue cX4_checkHue 1 none ({ frames := 8, cells := 1, slots := 6, locals := 100 } : Room) [.int xz] D cy K ad g sz zIAE := by
  refine z_metX (by decide) (Nat.le_of_ble_eq_true rfl) (fun p e s m below meth c ls hsz hl C0 hex hT hP hS => ?_)
  subst hsz
  have hl : lv_has ls 1 [(0, .int xz)] := hl
  have hx := C0.1; have hb := C0.2.1; have hown := C0.2.2.2.1; have hts := C0.2.2.2.2.1
  refine lv_iload_n hx hb dX4_checkHue_0 rfl (lv_at hl 0 rfl) ?_
  refine lv_if_lt (tgt := 10) hx hb dX4_checkHue_1 (by decide) (fun c_1 => ?_) (fun c_1 => ?_)
  · exact z_throwW C0 rfl hfl hex hT hP hS hl.1 (text := "no such hue") thf_iae (by decide +kernel) dX4_checkHue_10 dX4_checkHue_13 dX4_checkHue_14 dX4_checkHue_17 dX4_checkHue_20 (Nat.le_of_ble_eq_true rfl) (Nat.le_of_ble_eq_true rfl) (Nat.le_of_ble_eq_true rfl) (Nat.le_of_ble_eq_true rfl) (Nat.le_of_ble_eq_true rfl) (Nat.le_of_ble_eq_true rfl) (Nat.le_of_ble_eq_true rfl)
  · refine lv_iload_n hx hb dX4_checkHue_4 rfl (lv_at hl 0 rfl) ?_
    refine lv_bipush (v := 6) hx hb dX4_checkHue_5 (by decide) ?_
    refine lv_icmp_lt (tgt := 21) hx hb dX4_checkHue_7 (by decide) (fun c_7 => (zbad1 hbd c_1 c_7).elim) (fun c_7 => ?_)
    exact z_throwW C0 rfl hfl hex hT hP hS hl.1 (text := "no such hue") thf_iae (by decide +kernel) dX4_checkHue_10 dX4_checkHue_13 dX4_checkHue_14 dX4_checkHue_17 dX4_checkHue_20 (Nat.le_of_ble_eq_true rfl) (Nat.le_of_ble_eq_true rfl) (Nat.le_of_ble_eq_true rfl) (Nat.le_of_ble_eq_true rfl) (Nat.le_of_ble_eq_true rfl) (Nat.le_of_ble_eq_true rfl) (Nat.le_of_ble_eq_true rfl)
set_option maxHeartbeats 4000000 in
set_option maxRecDepth 100000 in
theorem x_X4_checkSlot_iae (l : Launch) (hfl : l.stackTraces = false) {D : va_G} {cy : Nat → ClassId} {K : Nat} {ad : Nat → Nat} {g : Nat → va_E} (sz : Nat) {xz : Int32} (hbd : xz < 0 ∨ 2 ≤ xz) : zXM l yX4_checkSlot cX4_checkSlot 1 none ({ frames := 8, cells := 1, slots := 6, locals := 100 } : Room) [.int xz] D cy K ad g sz zIAE := by
  refine z_metX (by decide) (Nat.le_of_ble_eq_true rfl) (fun p e s m below meth c ls hsz hl C0 hex hT hP hS => ?_)
  subst hsz
  have hl : lv_has ls 1 [(0, .int xz)] := hl
  have hx := C0.1; have hb := C0.2.1; have hown := C0.2.2.2.1; have hts := C0.2.2.2.2.1
  refine lv_iload_n hx hb dX4_checkSlot_0 rfl (lv_at hl 0 rfl) ?_
  refine lv_if_lt (tgt := 9) hx hb dX4_checkSlot_1 (by decide) (fun c_1 => ?_) (fun c_1 => ?_)
  · exact z_throwW C0 rfl hfl hex hT hP hS hl.1 (text := "no such slot") thf_iae (by decide +kernel) dX4_checkSlot_9 dX4_checkSlot_12 dX4_checkSlot_13 dX4_checkSlot_16 dX4_checkSlot_19 (Nat.le_of_ble_eq_true rfl) (Nat.le_of_ble_eq_true rfl) (Nat.le_of_ble_eq_true rfl) (Nat.le_of_ble_eq_true rfl) (Nat.le_of_ble_eq_true rfl) (Nat.le_of_ble_eq_true rfl) (Nat.le_of_ble_eq_true rfl)
  · refine lv_iload_n hx hb dX4_checkSlot_4 rfl (lv_at hl 0 rfl) ?_
    refine lv_iconst (v := 2) hx hb dX4_checkSlot_5 (by decide) ?_
    refine lv_icmp_lt (tgt := 20) hx hb dX4_checkSlot_6 (by decide) (fun c_6 => (zbad1 hbd c_1 c_6).elim) (fun c_6 => ?_)
    exact z_throwW C0 rfl hfl hex hT hP hS hl.1 (text := "no such slot") thf_iae (by decide +kernel) dX4_checkSlot_9 dX4_checkSlot_12 dX4_checkSlot_13 dX4_checkSlot_16 dX4_checkSlot_19 (Nat.le_of_ble_eq_true rfl) (Nat.le_of_ble_eq_true rfl) (Nat.le_of_ble_eq_true rfl) (Nat.le_of_ble_eq_true rfl) (Nat.le_of_ble_eq_true rfl) (Nat.le_of_ble_eq_true rfl) (Nat.le_of_ble_eq_true rfl)
set_option maxHeartbeats 4000000 in
set_option maxRecDepth 100000 in
theorem x_X4_tie_iob (l : Launch) (hfl : l.stackTraces = false) {D : va_G} {cy : Nat → ClassId} {K : Nat} {ad : Nat → Nat} {g : Nat → va_E} (sz : Nat) {st : Nat → Int32} {sv : Nat → Nat → Int32} {nx sz2 : Nat} {ns : Nat → Option Nat} {ss : Nat → Nat → Int32} {bu : Nat → Int32} {ln : Nat} {xz : Int32} {num : Int32} (hTT : isT cy K ad g st sv nx sz2 ns ss bu ln) (hbd : xz < 0 ∨ 7 ≤ xz) : zXM l yX4_tie cX4_tie 4 (some .int) ({ frames := 10, cells := 1, slots := 6, locals := 160 } : Room) [.ref (ad 0), .int xz, .int num] D cy K ad g sz zIOB := by
  refine z_metX (by decide) (Nat.le_of_ble_eq_true rfl) (fun p e s m below meth c ls hsz hl C0 hex hT hP hS => ?_)
  subst hsz
  have hl : lv_has ls 4 [(0, .ref (ad 0)), (1, .int xz), (2, .int num)] := hl
  have hx := C0.1; have hb := C0.2.1; have hown := C0.2.2.2.1; have hts := C0.2.2.2.2.1
  obtain ⟨sn, tl, rs, x, hX, hH, hHi, hRs, hTr, hSn⟩ := id hTT
  have hR : isR cy K ad g 215 rs.1 rs.2.1 rs.2.2.1 rs.2.2.2.1 rs.2.2.2.2 := hRs
  refine lv_aload_n hx hb dX4_tie_0 rfl (lv_at hl 0 rfl) ?_
  refine lv_iload_n hx hb dX4_tie_1 rfl (lv_at hl 1 rfl) ?_
  refine z_thrown C0 hP hS (z_runVX (As := [.int xz]) (rest := []) C0 hT hP hS hl.1 (x_X4_cordAt_iob l hfl _ hbd) lk_X4_53 hX.n0 hX.o rfl rfl (Nat.le_of_ble_eq_true rfl) rfl rfl ⟨Nat.le_of_ble_eq_true rfl, Nat.le_of_ble_eq_true rfl⟩ ⟨Nat.le_of_ble_eq_true rfl, Nat.le_of_ble_eq_true rfl⟩ dX4_tie_2) (fun ce q9 H locs hP hS hce hcv hcl => ?_)
  exact z_outX C0 hex hP hS hce hcv hcl (Nat.le_refl _) (Nat.le_refl _)
set_option maxHeartbeats 4000000 in
set_option maxRecDepth 100000 in
theorem x_X4_slip_iob (l : Launch) (hfl : l.stackTraces = false) {D : va_G} {cy : Nat → ClassId} {K : Nat} {ad : Nat → Nat} {g : Nat → va_E} (sz : Nat) {st : Nat → Int32} {sv : Nat → Nat → Int32} {nx sz2 : Nat} {ns : Nat → Option Nat} {ss : Nat → Nat → Int32} {bu : Nat → Int32} {ln : Nat} {xz : Int32} {yz : Int32} (hTT : isT cy K ad g st sv nx sz2 ns ss bu ln) (hbd : xz < 0 ∨ 7 ≤ xz) : zXM l yX4_slip cX4_slip 4 (some .int) ({ frames := 10, cells := 1, slots := 6, locals := 160 } : Room) [.ref (ad 0), .int xz, .int yz] D cy K ad g sz zIOB := by
  refine z_metX (by decide) (Nat.le_of_ble_eq_true rfl) (fun p e s m below meth c ls hsz hl C0 hex hT hP hS => ?_)
  subst hsz
  have hl : lv_has ls 4 [(0, .ref (ad 0)), (1, .int xz), (2, .int yz)] := hl
  have hx := C0.1; have hb := C0.2.1; have hown := C0.2.2.2.1; have hts := C0.2.2.2.2.1
  obtain ⟨sn, tl, rs, x, hX, hH, hHi, hRs, hTr, hSn⟩ := id hTT
  have hR : isR cy K ad g 215 rs.1 rs.2.1 rs.2.2.1 rs.2.2.2.1 rs.2.2.2.2 := hRs
  refine lv_aload_n hx hb dX4_slip_0 rfl (lv_at hl 0 rfl) ?_
  refine lv_iload_n hx hb dX4_slip_1 rfl (lv_at hl 1 rfl) ?_
  refine z_thrown C0 hP hS (z_runVX (As := [.int xz]) (rest := []) C0 hT hP hS hl.1 (x_X4_cordAt_iob l hfl _ hbd) lk_X4_53 hX.n0 hX.o rfl rfl (Nat.le_of_ble_eq_true rfl) rfl rfl ⟨Nat.le_of_ble_eq_true rfl, Nat.le_of_ble_eq_true rfl⟩ ⟨Nat.le_of_ble_eq_true rfl, Nat.le_of_ble_eq_true rfl⟩ dX4_slip_2) (fun ce q9 H locs hP hS hce hcv hcl => ?_)
  exact z_outX C0 hex hP hS hce hcv hcl (Nat.le_refl _) (Nat.le_refl _)
set_option maxHeartbeats 4000000 in
set_option maxRecDepth 100000 in
theorem x_X4_mend_iob (l : Launch) (hfl : l.stackTraces = false) {D : va_G} {cy : Nat → ClassId} {K : Nat} {ad : Nat → Nat} {g : Nat → va_E} (sz : Nat) {st : Nat → Int32} {sv : Nat → Nat → Int32} {nx sz2 : Nat} {ns : Nat → Option Nat} {ss : Nat → Nat → Int32} {bu : Nat → Int32} {ln : Nat} {xz : Int32}  (hTT : isT cy K ad g st sv nx sz2 ns ss bu ln) (hbd : xz < 0 ∨ 7 ≤ xz) : zXM l yX4_mend cX4_mend 3 (some .int) ({ frames := 10, cells := 1, slots := 6, locals := 160 } : Room) [.ref (ad 0), .int xz] D cy K ad g sz zIOB := by
  refine z_metX (by decide) (Nat.le_of_ble_eq_true rfl) (fun p e s m below meth c ls hsz hl C0 hex hT hP hS => ?_)
  subst hsz
  have hl : lv_has ls 3 [(0, .ref (ad 0)), (1, .int xz)] := hl
  have hx := C0.1; have hb := C0.2.1; have hown := C0.2.2.2.1; have hts := C0.2.2.2.2.1
  obtain ⟨sn, tl, rs, x, hX, hH, hHi, hRs, hTr, hSn⟩ := id hTT
  have hR : isR cy K ad g 215 rs.1 rs.2.1 rs.2.2.1 rs.2.2.2.1 rs.2.2.2.2 := hRs
  refine lv_aload_n hx hb dX4_mend_0 rfl (lv_at hl 0 rfl) ?_
  refine lv_iload_n hx hb dX4_mend_1 rfl (lv_at hl 1 rfl) ?_
  refine z_thrown C0 hP hS (z_runVX (As := [.int xz]) (rest := []) C0 hT hP hS hl.1 (x_X4_cordAt_iob l hfl _ hbd) lk_X4_53 hX.n0 hX.o rfl rfl (Nat.le_of_ble_eq_true rfl) rfl rfl ⟨Nat.le_of_ble_eq_true rfl, Nat.le_of_ble_eq_true rfl⟩ ⟨Nat.le_of_ble_eq_true rfl, Nat.le_of_ble_eq_true rfl⟩ dX4_mend_2) (fun ce q9 H locs hP hS hce hcv hcl => ?_)
  exact z_outX C0 hex hP hS hce hcv hcl (Nat.le_refl _) (Nat.le_refl _)
set_option maxHeartbeats 4000000 in
set_option maxRecDepth 100000 in
theorem x_X4_renew_iob (l : Launch) (hfl : l.stackTraces = false) {D : va_G} {cy : Nat → ClassId} {K : Nat} {ad : Nat → Nat} {g : Nat → va_E} (sz : Nat) {st : Nat → Int32} {sv : Nat → Nat → Int32} {nx sz2 : Nat} {ns : Nat → Option Nat} {ss : Nat → Nat → Int32} {bu : Nat → Int32} {ln : Nat} {xz : Int32}  (hTT : isT cy K ad g st sv nx sz2 ns ss bu ln) (hbd : xz < 0 ∨ 7 ≤ xz) : zXM l yX4_renew cX4_renew 3 (some .int) ({ frames := 10, cells := 1, slots := 6, locals := 160 } : Room) [.ref (ad 0), .int xz] D cy K ad g sz zIOB := by
  refine z_metX (by decide) (Nat.le_of_ble_eq_true rfl) (fun p e s m below meth c ls hsz hl C0 hex hT hP hS => ?_)
  subst hsz
  have hl : lv_has ls 3 [(0, .ref (ad 0)), (1, .int xz)] := hl
  have hx := C0.1; have hb := C0.2.1; have hown := C0.2.2.2.1; have hts := C0.2.2.2.2.1
  obtain ⟨sn, tl, rs, x, hX, hH, hHi, hRs, hTr, hSn⟩ := id hTT
  have hR : isR cy K ad g 215 rs.1 rs.2.1 rs.2.2.1 rs.2.2.2.1 rs.2.2.2.2 := hRs
  refine lv_aload_n hx hb dX4_renew_0 rfl (lv_at hl 0 rfl) ?_
  refine lv_iload_n hx hb dX4_renew_1 rfl (lv_at hl 1 rfl) ?_
  refine z_thrown C0 hP hS (z_runVX (As := [.int xz]) (rest := []) C0 hT hP hS hl.1 (x_X4_cordAt_iob l hfl _ hbd) lk_X4_53 hX.n0 hX.o rfl rfl (Nat.le_of_ble_eq_true rfl) rfl rfl ⟨Nat.le_of_ble_eq_true rfl, Nat.le_of_ble_eq_true rfl⟩ ⟨Nat.le_of_ble_eq_true rfl, Nat.le_of_ble_eq_true rfl⟩ dX4_renew_2) (fun ce q9 H locs hP hS hce hcv hcl => ?_)
  exact z_outX C0 hex hP hS hce hcv hcl (Nat.le_refl _) (Nat.le_refl _)
set_option maxHeartbeats 4000000 in
set_option maxRecDepth 100000 in
theorem x_X4_dye_iob (l : Launch) (hfl : l.stackTraces = false) {D : va_G} {cy : Nat → ClassId} {K : Nat} {ad : Nat → Nat} {g : Nat → va_E} (sz : Nat) {st : Nat → Int32} {sv : Nat → Nat → Int32} {nx sz2 : Nat} {ns : Nat → Option Nat} {ss : Nat → Nat → Int32} {bu : Nat → Int32} {ln : Nat} {xz : Int32} {yz : Int32} (hTT : isT cy K ad g st sv nx sz2 ns ss bu ln) (hbd : xz < 0 ∨ 7 ≤ xz) : zXM l yX4_dye cX4_dye 5 (some .int) ({ frames := 10, cells := 1, slots := 6, locals := 160 } : Room) [.ref (ad 0), .int xz, .int yz] D cy K ad g sz zIOB := by
  refine z_metX (by decide) (Nat.le_of_ble_eq_true rfl) (fun p e s m below meth c ls hsz hl C0 hex hT hP hS => ?_)
  subst hsz
  have hl : lv_has ls 5 [(0, .ref (ad 0)), (1, .int xz), (2, .int yz)] := hl
  have hx := C0.1; have hb := C0.2.1; have hown := C0.2.2.2.1; have hts := C0.2.2.2.2.1
  obtain ⟨sn, tl, rs, x, hX, hH, hHi, hRs, hTr, hSn⟩ := id hTT
  have hR : isR cy K ad g 215 rs.1 rs.2.1 rs.2.2.1 rs.2.2.2.1 rs.2.2.2.2 := hRs
  refine lv_aload_n hx hb dX4_dye_0 rfl (lv_at hl 0 rfl) ?_
  refine lv_iload_n hx hb dX4_dye_1 rfl (lv_at hl 1 rfl) ?_
  refine z_thrown C0 hP hS (z_runVX (As := [.int xz]) (rest := []) C0 hT hP hS hl.1 (x_X4_cordAt_iob l hfl _ hbd) lk_X4_53 hX.n0 hX.o rfl rfl (Nat.le_of_ble_eq_true rfl) rfl rfl ⟨Nat.le_of_ble_eq_true rfl, Nat.le_of_ble_eq_true rfl⟩ ⟨Nat.le_of_ble_eq_true rfl, Nat.le_of_ble_eq_true rfl⟩ dX4_dye_2) (fun ce q9 H locs hP hS hce hcv hcl => ?_)
  exact z_outX C0 hex hP hS hce hcv hcl (Nat.le_refl _) (Nat.le_refl _)
set_option maxHeartbeats 4000000 in
set_option maxRecDepth 100000 in
theorem x_X4_cordOf_iob (l : Launch) (hfl : l.stackTraces = false) {D : va_G} {cy : Nat → ClassId} {K : Nat} {ad : Nat → Nat} {g : Nat → va_E} (sz : Nat) {st : Nat → Int32} {sv : Nat → Nat → Int32} {nx sz2 : Nat} {ns : Nat → Option Nat} {ss : Nat → Nat → Int32} {bu : Nat → Int32} {ln : Nat} {xz : Int32} {yz : Int32} (hTT : isT cy K ad g st sv nx sz2 ns ss bu ln) (hbd : xz < 0 ∨ 7 ≤ xz) : zXM l yX4_cordOf cX4_cordOf 4 (some .int) ({ frames := 10, cells := 1, slots := 6, locals := 160 } : Room) [.ref (ad 0), .int xz, .int yz] D cy K ad g sz zIOB := by
  refine z_metX (by decide) (Nat.le_of_ble_eq_true rfl) (fun p e s m below meth c ls hsz hl C0 hex hT hP hS => ?_)
  subst hsz
  have hl : lv_has ls 4 [(0, .ref (ad 0)), (1, .int xz), (2, .int yz)] := hl
  have hx := C0.1; have hb := C0.2.1; have hown := C0.2.2.2.1; have hts := C0.2.2.2.2.1
  obtain ⟨sn, tl, rs, x, hX, hH, hHi, hRs, hTr, hSn⟩ := id hTT
  have hR : isR cy K ad g 215 rs.1 rs.2.1 rs.2.2.1 rs.2.2.2.1 rs.2.2.2.2 := hRs
  refine lv_aload_n hx hb dX4_cordOf_0 rfl (lv_at hl 0 rfl) ?_
  refine lv_iload_n hx hb dX4_cordOf_1 rfl (lv_at hl 1 rfl) ?_
  refine z_thrown C0 hP hS (z_runVX (As := [.int xz]) (rest := []) C0 hT hP hS hl.1 (x_X4_cordAt_iob l hfl _ hbd) lk_X4_53 hX.n0 hX.o rfl rfl (Nat.le_of_ble_eq_true rfl) rfl rfl ⟨Nat.le_of_ble_eq_true rfl, Nat.le_of_ble_eq_true rfl⟩ ⟨Nat.le_of_ble_eq_true rfl, Nat.le_of_ble_eq_true rfl⟩ dX4_cordOf_2) (fun ce q9 H locs hP hS hce hcv hcl => ?_)
  exact z_outX C0 hex hP hS hce hcv hcl (Nat.le_refl _) (Nat.le_refl _)
set_option maxHeartbeats 4000000 in
set_option maxRecDepth 100000 in
theorem x_X4_placeOf_iob (l : Launch) (hfl : l.stackTraces = false) {D : va_G} {cy : Nat → ClassId} {K : Nat} {ad : Nat → Nat} {g : Nat → va_E} (sz : Nat) {st : Nat → Int32} {sv : Nat → Nat → Int32} {nx sz2 : Nat} {ns : Nat → Option Nat} {ss : Nat → Nat → Int32} {bu : Nat → Int32} {ln : Nat} {xz : Int32} {yz wz : Int32} (hTT : isT cy K ad g st sv nx sz2 ns ss bu ln) (hbd : xz < 0 ∨ 7 ≤ xz) : zXM l yX4_placeOf cX4_placeOf 5 (some .int) ({ frames := 10, cells := 1, slots := 6, locals := 160 } : Room) [.ref (ad 0), .int xz, .int yz, .int wz] D cy K ad g sz zIOB := by
  refine z_metX (by decide) (Nat.le_of_ble_eq_true rfl) (fun p e s m below meth c ls hsz hl C0 hex hT hP hS => ?_)
  subst hsz
  have hl : lv_has ls 5 [(0, .ref (ad 0)), (1, .int xz), (2, .int yz), (3, .int wz)] := hl
  have hx := C0.1; have hb := C0.2.1; have hown := C0.2.2.2.1; have hts := C0.2.2.2.2.1
  obtain ⟨sn, tl, rs, x, hX, hH, hHi, hRs, hTr, hSn⟩ := id hTT
  have hR : isR cy K ad g 215 rs.1 rs.2.1 rs.2.2.1 rs.2.2.2.1 rs.2.2.2.2 := hRs
  refine lv_aload_n hx hb dX4_placeOf_0 rfl (lv_at hl 0 rfl) ?_
  refine lv_iload_n hx hb dX4_placeOf_1 rfl (lv_at hl 1 rfl) ?_
  refine z_thrown C0 hP hS (z_runVX (As := [.int xz]) (rest := []) C0 hT hP hS hl.1 (x_X4_cordAt_iob l hfl _ hbd) lk_X4_53 hX.n0 hX.o rfl rfl (Nat.le_of_ble_eq_true rfl) rfl rfl ⟨Nat.le_of_ble_eq_true rfl, Nat.le_of_ble_eq_true rfl⟩ ⟨Nat.le_of_ble_eq_true rfl, Nat.le_of_ble_eq_true rfl⟩ dX4_placeOf_2) (fun ce q9 H locs hP hS hce hcv hcl => ?_)
  exact z_outX C0 hex hP hS hce hcv hcl (Nat.le_refl _) (Nat.le_refl _)
set_option maxHeartbeats 4000000 in
set_option maxRecDepth 100000 in
theorem x_X4_part_iob (l : Launch) (hfl : l.stackTraces = false) {D : va_G} {cy : Nat → ClassId} {K : Nat} {ad : Nat → Nat} {g : Nat → va_E} (sz : Nat) {st : Nat → Int32} {sv : Nat → Nat → Int32} {nx sz2 : Nat} {ns : Nat → Option Nat} {ss : Nat → Nat → Int32} {bu : Nat → Int32} {ln : Nat} {xz : Int32} {yz : Int32} (hTT : isT cy K ad g st sv nx sz2 ns ss bu ln) (hbd : xz < 0 ∨ 7 ≤ xz) : zXM l yX4_part cX4_part 4 (some .int) ({ frames := 10, cells := 1, slots := 6, locals := 160 } : Room) [.ref (ad 0), .int xz, .int yz] D cy K ad g sz zIOB := by
  refine z_metX (by decide) (Nat.le_of_ble_eq_true rfl) (fun p e s m below meth c ls hsz hl C0 hex hT hP hS => ?_)
  subst hsz
  have hl : lv_has ls 4 [(0, .ref (ad 0)), (1, .int xz), (2, .int yz)] := hl
  have hx := C0.1; have hb := C0.2.1; have hown := C0.2.2.2.1; have hts := C0.2.2.2.2.1
  obtain ⟨sn, tl, rs, x, hX, hH, hHi, hRs, hTr, hSn⟩ := id hTT
  have hR : isR cy K ad g 215 rs.1 rs.2.1 rs.2.2.1 rs.2.2.2.1 rs.2.2.2.2 := hRs
  refine lv_aload_n hx hb dX4_part_0 rfl (lv_at hl 0 rfl) ?_
  refine lv_iload_n hx hb dX4_part_1 rfl (lv_at hl 1 rfl) ?_
  refine z_thrown C0 hP hS (z_runVX (As := [.int xz]) (rest := []) C0 hT hP hS hl.1 (x_X4_cordAt_iob l hfl _ hbd) lk_X4_53 hX.n0 hX.o rfl rfl (Nat.le_of_ble_eq_true rfl) rfl rfl ⟨Nat.le_of_ble_eq_true rfl, Nat.le_of_ble_eq_true rfl⟩ ⟨Nat.le_of_ble_eq_true rfl, Nat.le_of_ble_eq_true rfl⟩ dX4_part_2) (fun ce q9 H locs hP hS hce hcv hcl => ?_)
  exact z_outX C0 hex hP hS hce hcv hcl (Nat.le_refl _) (Nat.le_refl _)
set_option maxHeartbeats 4000000 in
set_option maxRecDepth 100000 in
theorem x_X4_whyNot_iob (l : Launch) (hfl : l.stackTraces = false) {D : va_G} {cy : Nat → ClassId} {K : Nat} {ad : Nat → Nat} {g : Nat → va_E} (sz : Nat) {st : Nat → Int32} {sv : Nat → Nat → Int32} {nx sz2 : Nat} {ns : Nat → Option Nat} {ss : Nat → Nat → Int32} {bu : Nat → Int32} {ln : Nat} {xz : Int32} {num : Int32} (hTT : isT cy K ad g st sv nx sz2 ns ss bu ln) (hbd : xz < 0 ∨ 7 ≤ xz) : zXM l yX4_whyNot cX4_whyNot 4 (some .int) ({ frames := 10, cells := 1, slots := 6, locals := 160 } : Room) [.ref (ad 0), .int xz, .int num] D cy K ad g sz zIOB := by
  refine z_metX (by decide) (Nat.le_of_ble_eq_true rfl) (fun p e s m below meth c ls hsz hl C0 hex hT hP hS => ?_)
  subst hsz
  have hl : lv_has ls 4 [(0, .ref (ad 0)), (1, .int xz), (2, .int num)] := hl
  have hx := C0.1; have hb := C0.2.1; have hown := C0.2.2.2.1; have hts := C0.2.2.2.2.1
  obtain ⟨sn, tl, rs, x, hX, hH, hHi, hRs, hTr, hSn⟩ := id hTT
  have hR : isR cy K ad g 215 rs.1 rs.2.1 rs.2.2.1 rs.2.2.2.1 rs.2.2.2.2 := hRs
  refine lv_aload_n hx hb dX4_whyNot_0 rfl (lv_at hl 0 rfl) ?_
  refine lv_iload_n hx hb dX4_whyNot_1 rfl (lv_at hl 1 rfl) ?_
  refine z_thrown C0 hP hS (z_runVX (As := [.int xz]) (rest := []) C0 hT hP hS hl.1 (x_X4_cordAt_iob l hfl _ hbd) lk_X4_53 hX.n0 hX.o rfl rfl (Nat.le_of_ble_eq_true rfl) rfl rfl ⟨Nat.le_of_ble_eq_true rfl, Nat.le_of_ble_eq_true rfl⟩ ⟨Nat.le_of_ble_eq_true rfl, Nat.le_of_ble_eq_true rfl⟩ dX4_whyNot_2) (fun ce q9 H locs hP hS hce hcv hcl => ?_)
  exact z_outX C0 hex hP hS hce hcv hcl (Nat.le_refl _) (Nat.le_refl _)
set_option maxHeartbeats 4000000 in
set_option maxRecDepth 100000 in
theorem x_X4_howOften_iob (l : Launch) (hfl : l.stackTraces = false) {D : va_G} {cy : Nat → ClassId} {K : Nat} {ad : Nat → Nat} {g : Nat → va_E} (sz : Nat) {st : Nat → Int32} {sv : Nat → Nat → Int32} {nx sz2 : Nat} {ns : Nat → Option Nat} {ss : Nat → Nat → Int32} {bu : Nat → Int32} {ln : Nat} {xz : Int32} {num : Int32} (hTT : isT cy K ad g st sv nx sz2 ns ss bu ln) (hbd : xz < 0 ∨ 7 ≤ xz) : zXM l yX4_howOften cX4_howOften 5 (some .int) ({ frames := 10, cells := 1, slots := 6, locals := 160 } : Room) [.ref (ad 0), .int xz, .int num] D cy K ad g sz zIOB := by
  refine z_metX (by decide) (Nat.le_of_ble_eq_true rfl) (fun p e s m below meth c ls hsz hl C0 hex hT hP hS => ?_)
  subst hsz
  have hl : lv_has ls 5 [(0, .ref (ad 0)), (1, .int xz), (2, .int num)] := hl
  have hx := C0.1; have hb := C0.2.1; have hown := C0.2.2.2.1; have hts := C0.2.2.2.2.1
  obtain ⟨sn, tl, rs, x, hX, hH, hHi, hRs, hTr, hSn⟩ := id hTT
  have hR : isR cy K ad g 215 rs.1 rs.2.1 rs.2.2.1 rs.2.2.2.1 rs.2.2.2.2 := hRs
  refine lv_aload_n hx hb dX4_howOften_0 rfl (lv_at hl 0 rfl) ?_
  refine lv_iload_n hx hb dX4_howOften_1 rfl (lv_at hl 1 rfl) ?_
  refine z_thrown C0 hP hS (z_runVX (As := [.int xz]) (rest := []) C0 hT hP hS hl.1 (x_X4_cordAt_iob l hfl _ hbd) lk_X4_53 hX.n0 hX.o rfl rfl (Nat.le_of_ble_eq_true rfl) rfl rfl ⟨Nat.le_of_ble_eq_true rfl, Nat.le_of_ble_eq_true rfl⟩ ⟨Nat.le_of_ble_eq_true rfl, Nat.le_of_ble_eq_true rfl⟩ dX4_howOften_2) (fun ce q9 H locs hP hS hce hcv hcl => ?_)
  exact z_outX C0 hex hP hS hce hcv hcl (Nat.le_refl _) (Nat.le_refl _)
set_option maxHeartbeats 4000000 in
set_option maxRecDepth 100000 in
theorem x_X4_add_iob (l : Launch) (hfl : l.stackTraces = false) {D : va_G} {cy : Nat → ClassId} {K : Nat} {ad : Nat → Nat} {g : Nat → va_E} (sz : Nat) {st : Nat → Int32} {sv : Nat → Nat → Int32} {nx sz2 : Nat} {ns : Nat → Option Nat} {ss : Nat → Nat → Int32} {bu : Nat → Int32} {ln : Nat} {xz : Int32} {yz : Int32} (hTT : isT cy K ad g st sv nx sz2 ns ss bu ln) (hbd : xz < 0 ∨ 7 ≤ xz) : zXM l yX4_add cX4_add 5 (some .int) ({ frames := 10, cells := 1, slots := 6, locals := 160 } : Room) [.ref (ad 0), .int xz, .int yz] D cy K ad g sz zIOB := by
  refine z_metX (by decide) (Nat.le_of_ble_eq_true rfl) (fun p e s m below meth c ls hsz hl C0 hex hT hP hS => ?_)
  subst hsz
  have hl : lv_has ls 5 [(0, .ref (ad 0)), (1, .int xz), (2, .int yz)] := hl
  have hx := C0.1; have hb := C0.2.1; have hown := C0.2.2.2.1; have hts := C0.2.2.2.2.1
  obtain ⟨sn, tl, rs, x, hX, hH, hHi, hRs, hTr, hSn⟩ := id hTT
  have hR : isR cy K ad g 215 rs.1 rs.2.1 rs.2.2.1 rs.2.2.2.1 rs.2.2.2.2 := hRs
  refine lv_aload_n hx hb dX4_add_0 rfl (lv_at hl 0 rfl) ?_
  refine lv_iload_n hx hb dX4_add_1 rfl (lv_at hl 1 rfl) ?_
  refine z_thrown C0 hP hS (z_runVX (As := [.int xz]) (rest := []) C0 hT hP hS hl.1 (x_X4_cordAt_iob l hfl _ hbd) lk_X4_53 hX.n0 hX.o rfl rfl (Nat.le_of_ble_eq_true rfl) rfl rfl ⟨Nat.le_of_ble_eq_true rfl, Nat.le_of_ble_eq_true rfl⟩ ⟨Nat.le_of_ble_eq_true rfl, Nat.le_of_ble_eq_true rfl⟩ dX4_add_2) (fun ce q9 H locs hP hS hce hcv hcl => ?_)
  exact z_outX C0 hex hP hS hce hcv hcl (Nat.le_refl _) (Nat.le_refl _)
set_option maxHeartbeats 4000000 in
set_option maxRecDepth 100000 in
theorem x_X4_add_iob2 (l : Launch) (hfl : l.stackTraces = false) {D : va_G} {cy : Nat → ClassId} {K : Nat} {ad : Nat → Nat} {g : Nat → va_E} (sz : Nat) {st : Nat → Int32} {sv : Nat → Nat → Int32} {nx sz2 : Nat} {ns : Nat → Option Nat} {ss : Nat → Nat → Int32} {bu : Nat → Int32} {ln : Nat} {iz : Nat} {xz : Int32} (hTT : isT cy K ad g st sv nx sz2 ns ss bu ln) (hi : iz < 7) (hbd : xz < 0 ∨ 7 ≤ xz) : zXM l yX4_add cX4_add 5 (some .int) ({ frames := 10, cells := 1, slots := 6, locals := 160 } : Room) [.ref (ad 0), .int (nI iz), .int xz] D cy K ad g sz zIOB := by
  refine z_metX (by decide) (Nat.le_of_ble_eq_true rfl) (fun p e s m below meth c ls hsz hl C0 hex hT hP hS => ?_)
  subst hsz
  have hl : lv_has ls 5 [(0, .ref (ad 0)), (1, .int (nI iz)), (2, .int xz)] := hl
  have hx := C0.1; have hb := C0.2.1; have hown := C0.2.2.2.1; have hts := C0.2.2.2.2.1
  obtain ⟨sn, tl, rs, x, hX, hH, hHi, hRs, hTr, hSn⟩ := id hTT
  have hR : isR cy K ad g 215 rs.1 rs.2.1 rs.2.2.1 rs.2.2.2.1 rs.2.2.2.2 := hRs
  refine lv_aload_n hx hb dX4_add_0 rfl (lv_at hl 0 rfl) ?_
  refine lv_iload_n hx hb dX4_add_1 rfl (lv_at hl 1 rfl) ?_
  refine z_Vr_eq (As := [.int (nI iz)]) (rest := []) C0 hP hS hl.1 (m_X4_cordAt l _ hX hH hi) lk_X4_53 hX.n0 hX.o rfl rfl (Nat.le_of_ble_eq_true rfl) ⟨Nat.le_of_ble_eq_true rfl, Nat.le_of_ble_eq_true rfl⟩ rfl rfl ⟨Nat.zero_le _, Nat.zero_le _⟩ dX4_add_2 (fun H locs hP hS => ?_)
  refine lv_astore_n (lv' := [(3, .ref (ad (1 + 2 + 4 * iz))), (0, .ref (ad 0)), (1, .int (nI iz)), (2, .int xz)]) hx hb dX4_add_5 rfl hl (by decide) rfl (fun ls hl => ?_)
  refine lv_aload_n hx hb dX4_add_6 rfl (lv_at hl 1 rfl) ?_
  refine lv_iload_n hx hb dX4_add_7 rfl (lv_at hl 3 rfl) ?_
  refine z_thrown C0 hP hS (z_runVX (As := [.int xz]) (rest := []) C0 hT hP hS hl.1 (x_X4_cordAt_iob l hfl _ hbd) lk_X4_53 hX.n0 hX.o rfl rfl (Nat.le_of_ble_eq_true rfl) rfl rfl ⟨Nat.le_of_ble_eq_true rfl, Nat.le_of_ble_eq_true rfl⟩ ⟨Nat.le_of_ble_eq_true rfl, Nat.le_of_ble_eq_true rfl⟩ dX4_add_8) (fun ce q9 H locs hP hS hce hcv hcl => ?_)
  exact z_outX C0 hex hP hS hce hcv hcl (Nat.le_refl _) (Nat.le_refl _)
set_option maxHeartbeats 4000000 in
set_option maxRecDepth 100000 in
theorem x_X4_add_iae (l : Launch) (hfl : l.stackTraces = false) {D : va_G} {cy : Nat → ClassId} {K : Nat} {ad : Nat → Nat} {g : Nat → va_E} (sz : Nat) {st : Nat → Int32} {sv : Nat → Nat → Int32} {nx sz2 : Nat} {ns : Nat → Option Nat} {ss : Nat → Nat → Int32} {bu : Nat → Int32} {ln : Nat} {iz : Nat} (hTT : isT cy K ad g st sv nx sz2 ns ss bu ln) (hi : iz < 7) : zXM l yX4_add cX4_add 5 (some .int) ({ frames := 10, cells := 1, slots := 6, locals := 160 } : Room) [.ref (ad 0), .int (nI iz), .int (nI iz)] D cy K ad g sz zIAE := by
  refine z_metX (by decide) (Nat.le_of_ble_eq_true rfl) (fun p e s m below meth c ls hsz hl C0 hex hT hP hS => ?_)
  subst hsz
  have hl : lv_has ls 5 [(0, .ref (ad 0)), (1, .int (nI iz)), (2, .int (nI iz))] := hl
  have hx := C0.1; have hb := C0.2.1; have hown := C0.2.2.2.1; have hts := C0.2.2.2.2.1
  obtain ⟨sn, tl, rs, x, hX, hH, hHi, hRs, hTr, hSn⟩ := id hTT
  have hR : isR cy K ad g 215 rs.1 rs.2.1 rs.2.2.1 rs.2.2.2.1 rs.2.2.2.2 := hRs
  refine lv_aload_n hx hb dX4_add_0 rfl (lv_at hl 0 rfl) ?_
  refine lv_iload_n hx hb dX4_add_1 rfl (lv_at hl 1 rfl) ?_
  refine z_Vr_eq (As := [.int (nI iz)]) (rest := []) C0 hP hS hl.1 (m_X4_cordAt l _ hX hH hi) lk_X4_53 hX.n0 hX.o rfl rfl (Nat.le_of_ble_eq_true rfl) ⟨Nat.le_of_ble_eq_true rfl, Nat.le_of_ble_eq_true rfl⟩ rfl rfl ⟨Nat.zero_le _, Nat.zero_le _⟩ dX4_add_2 (fun H locs hP hS => ?_)
  refine lv_astore_n (lv' := [(3, .ref (ad (1 + 2 + 4 * iz))), (0, .ref (ad 0)), (1, .int (nI iz)), (2, .int (nI iz))]) hx hb dX4_add_5 rfl hl (by decide) rfl (fun ls hl => ?_)
  refine lv_aload_n hx hb dX4_add_6 rfl (lv_at hl 1 rfl) ?_
  refine lv_iload_n hx hb dX4_add_7 rfl (lv_at hl 3 rfl) ?_
  refine z_Vr_eq (As := [.int (nI iz)]) (rest := []) C0 hP hS hl.1 (m_X4_cordAt l _ hX hH hi) lk_X4_53 hX.n0 hX.o rfl rfl (Nat.le_of_ble_eq_true rfl) ⟨Nat.le_of_ble_eq_true rfl, Nat.le_of_ble_eq_true rfl⟩ rfl rfl ⟨Nat.zero_le _, Nat.zero_le _⟩ dX4_add_8 (fun H locs hP hS => ?_)
  refine lv_astore (lv' := [(4, .ref (ad (1 + 2 + 4 * iz))), (3, .ref (ad (1 + 2 + 4 * iz))), (0, .ref (ad 0)), (1, .int (nI iz)), (2, .int (nI iz))]) hx hb dX4_add_11 hl (by decide) rfl (fun ls hl => ?_)
  refine lv_iload_n hx hb dX4_add_13 rfl (lv_at hl 3 rfl) ?_
  refine lv_iload_n hx hb dX4_add_14 rfl (lv_at hl 4 rfl) ?_
  refine lv_icmp_ne (tgt := 28) hx hb dX4_add_15 (by decide) (fun c_15 => (c_15 rfl).elim) (fun c_15 => ?_)
  exact z_throw C0 rfl hfl hex hT hP hS hl.1 (text := "a cord is not added to itself") thf_iae (by decide +kernel) dX4_add_18 dX4_add_21 dX4_add_22 dX4_add_24 dX4_add_27 (Nat.le_of_ble_eq_true rfl) (Nat.le_of_ble_eq_true rfl) (Nat.le_of_ble_eq_true rfl) (Nat.le_of_ble_eq_true rfl) (Nat.le_of_ble_eq_true rfl) (Nat.le_of_ble_eq_true rfl) (Nat.le_of_ble_eq_true rfl)
set_option maxHeartbeats 4000000 in
set_option maxRecDepth 100000 in
theorem x_X4_tie_iae (l : Launch) (hfl : l.stackTraces = false) {D : va_G} {cy : Nat → ClassId} {K : Nat} {ad : Nat → Nat} {g : Nat → va_E} (sz : Nat) {st : Nat → Int32} {sv : Nat → Nat → Int32} {nx sz2 : Nat} {ns : Nat → Option Nat} {ss : Nat → Nat → Int32} {bu : Nat → Int32} {ln : Nat} {iz : Nat} {num : Int32} (hTT : isT cy K ad g st sv nx sz2 ns ss bu ln) (hi : iz < 7) (hbd : num < 1 ∨ 999999 < num) : zXM l yX4_tie cX4_tie 4 (some .int) ({ frames := 10, cells := 1, slots := 6, locals := 160 } : Room) [.ref (ad 0), .int (nI iz), .int num] D cy K ad g sz zIAE := by
  refine z_metX (by decide) (Nat.le_of_ble_eq_true rfl) (fun p e s m below meth c ls hsz hl C0 hex hT hP hS => ?_)
  subst hsz
  have hl : lv_has ls 4 [(0, .ref (ad 0)), (1, .int (nI iz)), (2, .int num)] := hl
  have hx := C0.1; have hb := C0.2.1; have hown := C0.2.2.2.1; have hts := C0.2.2.2.2.1
  obtain ⟨sn, tl, rs, x, hX, hH, hHi, hRs, hTr, hSn⟩ := id hTT
  have hR : isR cy K ad g 215 rs.1 rs.2.1 rs.2.2.1 rs.2.2.2.1 rs.2.2.2.2 := hRs
  refine lv_aload_n hx hb dX4_tie_0 rfl (lv_at hl 0 rfl) ?_
  refine lv_iload_n hx hb dX4_tie_1 rfl (lv_at hl 1 rfl) ?_
  refine z_Vr_eq (As := [.int (nI iz)]) (rest := []) C0 hP hS hl.1 (m_X4_cordAt l _ hX hH hi) lk_X4_53 hX.n0 hX.o rfl rfl (Nat.le_of_ble_eq_true rfl) ⟨Nat.le_of_ble_eq_true rfl, Nat.le_of_ble_eq_true rfl⟩ rfl rfl ⟨Nat.zero_le _, Nat.zero_le _⟩ dX4_tie_2 (fun H locs hP hS => ?_)
  refine lv_astore_n (lv' := [(3, .ref (ad (1 + 2 + 4 * iz))), (0, .ref (ad 0)), (1, .int (nI iz)), (2, .int num)]) hx hb dX4_tie_5 rfl hl (by decide) rfl (fun ls hl => ?_)
  refine lv_iload_n hx hb dX4_tie_6 rfl (lv_at hl 3 rfl) ?_
  refine z_thrown C0 hP hS (z_runSX (As := [.int num]) (rest := []) C0 hT hP hS hl.1 (x_X4_checkNumber_iae l hfl _ hbd) lk_X4_57 rfl rfl (Nat.le_of_ble_eq_true rfl) rfl rfl ⟨Nat.le_of_ble_eq_true rfl, Nat.le_of_ble_eq_true rfl⟩ ⟨Nat.le_of_ble_eq_true rfl, Nat.le_of_ble_eq_true rfl⟩ dX4_tie_7) (fun ce q9 H locs hP hS hce hcv hcl => ?_)
  exact z_outX C0 hex hP hS hce hcv hcl (Nat.le_refl _) (Nat.le_refl _)
set_option maxHeartbeats 4000000 in
set_option maxRecDepth 100000 in
theorem x_X4_whyNot_iae (l : Launch) (hfl : l.stackTraces = false) {D : va_G} {cy : Nat → ClassId} {K : Nat} {ad : Nat → Nat} {g : Nat → va_E} (sz : Nat) {st : Nat → Int32} {sv : Nat → Nat → Int32} {nx sz2 : Nat} {ns : Nat → Option Nat} {ss : Nat → Nat → Int32} {bu : Nat → Int32} {ln : Nat} {iz : Nat} {num : Int32} (hTT : isT cy K ad g st sv nx sz2 ns ss bu ln) (hi : iz < 7) (hbd : num < 1 ∨ 999999 < num) : zXM l yX4_whyNot cX4_whyNot 4 (some .int) ({ frames := 10, cells := 1, slots := 6, locals := 160 } : Room) [.ref (ad 0), .int (nI iz), .int num] D cy K ad g sz zIAE := by
  refine z_metX (by decide) (Nat.le_of_ble_eq_true rfl) (fun p e s m below meth c ls hsz hl C0 hex hT hP hS => ?_)
  subst hsz
  have hl : lv_has ls 4 [(0, .ref (ad 0)), (1, .int (nI iz)), (2, .int num)] := hl
  have hx := C0.1; have hb := C0.2.1; have hown := C0.2.2.2.1; have hts := C0.2.2.2.2.1
  obtain ⟨sn, tl, rs, x, hX, hH, hHi, hRs, hTr, hSn⟩ := id hTT
  have hR : isR cy K ad g 215 rs.1 rs.2.1 rs.2.2.1 rs.2.2.2.1 rs.2.2.2.2 := hRs
  refine lv_aload_n hx hb dX4_whyNot_0 rfl (lv_at hl 0 rfl) ?_
  refine lv_iload_n hx hb dX4_whyNot_1 rfl (lv_at hl 1 rfl) ?_
  refine z_Vr_eq (As := [.int (nI iz)]) (rest := []) C0 hP hS hl.1 (m_X4_cordAt l _ hX hH hi) lk_X4_53 hX.n0 hX.o rfl rfl (Nat.le_of_ble_eq_true rfl) ⟨Nat.le_of_ble_eq_true rfl, Nat.le_of_ble_eq_true rfl⟩ rfl rfl ⟨Nat.zero_le _, Nat.zero_le _⟩ dX4_whyNot_2 (fun H locs hP hS => ?_)
  refine lv_astore_n (lv' := [(3, .ref (ad (1 + 2 + 4 * iz))), (0, .ref (ad 0)), (1, .int (nI iz)), (2, .int num)]) hx hb dX4_whyNot_5 rfl hl (by decide) rfl (fun ls hl => ?_)
  refine lv_iload_n hx hb dX4_whyNot_6 rfl (lv_at hl 3 rfl) ?_
  refine z_thrown C0 hP hS (z_runSX (As := [.int num]) (rest := []) C0 hT hP hS hl.1 (x_X4_checkNumber_iae l hfl _ hbd) lk_X4_57 rfl rfl (Nat.le_of_ble_eq_true rfl) rfl rfl ⟨Nat.le_of_ble_eq_true rfl, Nat.le_of_ble_eq_true rfl⟩ ⟨Nat.le_of_ble_eq_true rfl, Nat.le_of_ble_eq_true rfl⟩ dX4_whyNot_7) (fun ce q9 H locs hP hS hce hcv hcl => ?_)
  exact z_outX C0 hex hP hS hce hcv hcl (Nat.le_refl _) (Nat.le_refl _)
set_option maxHeartbeats 4000000 in
set_option maxRecDepth 100000 in
theorem x_X4_howOften_iae (l : Launch) (hfl : l.stackTraces = false) {D : va_G} {cy : Nat → ClassId} {K : Nat} {ad : Nat → Nat} {g : Nat → va_E} (sz : Nat) {st : Nat → Int32} {sv : Nat → Nat → Int32} {nx sz2 : Nat} {ns : Nat → Option Nat} {ss : Nat → Nat → Int32} {bu : Nat → Int32} {ln : Nat} {iz : Nat} {num : Int32} (hTT : isT cy K ad g st sv nx sz2 ns ss bu ln) (hi : iz < 7) (hbd : num < 1 ∨ 999999 < num) : zXM l yX4_howOften cX4_howOften 5 (some .int) ({ frames := 10, cells := 1, slots := 6, locals := 160 } : Room) [.ref (ad 0), .int (nI iz), .int num] D cy K ad g sz zIAE := by
  refine z_metX (by decide) (Nat.le_of_ble_eq_true rfl) (fun p e s m below meth c ls hsz hl C0 hex hT hP hS => ?_)
  subst hsz
  have hl : lv_has ls 5 [(0, .ref (ad 0)), (1, .int (nI iz)), (2, .int num)] := hl
  have hx := C0.1; have hb := C0.2.1; have hown := C0.2.2.2.1; have hts := C0.2.2.2.2.1
  obtain ⟨sn, tl, rs, x, hX, hH, hHi, hRs, hTr, hSn⟩ := id hTT
  have hR : isR cy K ad g 215 rs.1 rs.2.1 rs.2.2.1 rs.2.2.2.1 rs.2.2.2.2 := hRs
  refine lv_aload_n hx hb dX4_howOften_0 rfl (lv_at hl 0 rfl) ?_
  refine lv_iload_n hx hb dX4_howOften_1 rfl (lv_at hl 1 rfl) ?_
  refine z_Vr_eq (As := [.int (nI iz)]) (rest := []) C0 hP hS hl.1 (m_X4_cordAt l _ hX hH hi) lk_X4_53 hX.n0 hX.o rfl rfl (Nat.le_of_ble_eq_true rfl) ⟨Nat.le_of_ble_eq_true rfl, Nat.le_of_ble_eq_true rfl⟩ rfl rfl ⟨Nat.zero_le _, Nat.zero_le _⟩ dX4_howOften_2 (fun H locs hP hS => ?_)
  refine lv_astore_n (lv' := [(3, .ref (ad (1 + 2 + 4 * iz))), (0, .ref (ad 0)), (1, .int (nI iz)), (2, .int num)]) hx hb dX4_howOften_5 rfl hl (by decide) rfl (fun ls hl => ?_)
  refine lv_iload_n hx hb dX4_howOften_6 rfl (lv_at hl 3 rfl) ?_
  refine z_thrown C0 hP hS (z_runSX (As := [.int num]) (rest := []) C0 hT hP hS hl.1 (x_X4_checkNumber_iae l hfl _ hbd) lk_X4_57 rfl rfl (Nat.le_of_ble_eq_true rfl) rfl rfl ⟨Nat.le_of_ble_eq_true rfl, Nat.le_of_ble_eq_true rfl⟩ ⟨Nat.le_of_ble_eq_true rfl, Nat.le_of_ble_eq_true rfl⟩ dX4_howOften_7) (fun ce q9 H locs hP hS hce hcv hcl => ?_)
  exact z_outX C0 hex hP hS hce hcv hcl (Nat.le_refl _) (Nat.le_refl _)
set_option maxHeartbeats 4000000 in
set_option maxRecDepth 100000 in
theorem x_X4_slip_iob2 (l : Launch) (hfl : l.stackTraces = false) {D : va_G} {cy : Nat → ClassId} {K : Nat} {ad : Nat → Nat} {g : Nat → va_E} (sz : Nat) {st : Nat → Int32} {sv : Nat → Nat → Int32} {nx sz2 : Nat} {ns : Nat → Option Nat} {ss : Nat → Nat → Int32} {bu : Nat → Int32} {ln : Nat} {iz : Nat} {xz : Int32} (hTT : isT cy K ad g st sv nx sz2 ns ss bu ln) (hi : iz < 7) (hbd : xz < 0 ∨ 6 ≤ xz) : zXM l yX4_slip cX4_slip 4 (some .int) ({ frames := 10, cells := 1, slots := 6, locals := 160 } : Room) [.ref (ad 0), .int (nI iz), .int xz] D cy K ad g sz zIOB := by
  refine z_metX (by decide) (Nat.le_of_ble_eq_true rfl) (fun p e s m below meth c ls hsz hl C0 hex hT hP hS => ?_)
  subst hsz
  have hl : lv_has ls 4 [(0, .ref (ad 0)), (1, .int (nI iz)), (2, .int xz)] := hl
  have hx := C0.1; have hb := C0.2.1; have hown := C0.2.2.2.1; have hts := C0.2.2.2.2.1
  obtain ⟨sn, tl, rs, x, hX, hH, hHi, hRs, hTr, hSn⟩ := id hTT
  have hR : isR cy K ad g 215 rs.1 rs.2.1 rs.2.2.1 rs.2.2.2.1 rs.2.2.2.2 := hRs
  refine lv_aload_n hx hb dX4_slip_0 rfl (lv_at hl 0 rfl) ?_
  refine lv_iload_n hx hb dX4_slip_1 rfl (lv_at hl 1 rfl) ?_
  refine z_Vr_eq (As := [.int (nI iz)]) (rest := []) C0 hP hS hl.1 (m_X4_cordAt l _ hX hH hi) lk_X4_53 hX.n0 hX.o rfl rfl (Nat.le_of_ble_eq_true rfl) ⟨Nat.le_of_ble_eq_true rfl, Nat.le_of_ble_eq_true rfl⟩ rfl rfl ⟨Nat.zero_le _, Nat.zero_le _⟩ dX4_slip_2 (fun H locs hP hS => ?_)
  refine lv_astore_n (lv' := [(3, .ref (ad (1 + 2 + 4 * iz))), (0, .ref (ad 0)), (1, .int (nI iz)), (2, .int xz)]) hx hb dX4_slip_5 rfl hl (by decide) rfl (fun ls hl => ?_)
  refine lv_iload_n hx hb dX4_slip_6 rfl (lv_at hl 3 rfl) ?_
  refine z_thrown C0 hP hS (z_runSX (As := [.int xz]) (rest := []) C0 hT hP hS hl.1 (x_X4_checkPlace_iob l hfl _ hbd) lk_X4_80 rfl rfl (Nat.le_of_ble_eq_true rfl) rfl rfl ⟨Nat.le_of_ble_eq_true rfl, Nat.le_of_ble_eq_true rfl⟩ ⟨Nat.le_of_ble_eq_true rfl, Nat.le_of_ble_eq_true rfl⟩ dX4_slip_7) (fun ce q9 H locs hP hS hce hcv hcl => ?_)
  exact z_outX C0 hex hP hS hce hcv hcl (Nat.le_refl _) (Nat.le_refl _)
set_option maxHeartbeats 4000000 in
set_option maxRecDepth 100000 in
theorem x_X4_dye_iae (l : Launch) (hfl : l.stackTraces = false) {D : va_G} {cy : Nat → ClassId} {K : Nat} {ad : Nat → Nat} {g : Nat → va_E} (sz : Nat) {st : Nat → Int32} {sv : Nat → Nat → Int32} {nx sz2 : Nat} {ns : Nat → Option Nat} {ss : Nat → Nat → Int32} {bu : Nat → Int32} {ln : Nat} {iz : Nat} {xz : Int32} (hTT : isT cy K ad g st sv nx sz2 ns ss bu ln) (hi : iz < 7) (hbd : xz < 0 ∨ 6 ≤ xz) : zXM l yX4_dye cX4_dye 5 (some .int) ({ frames := 10, cells := 1, slots := 6, locals := 160 } : Room) [.ref (ad 0), .int (nI iz), .int xz] D cy K ad g sz zIAE := by
  refine z_metX (by decide) (Nat.le_of_ble_eq_true rfl) (fun p e s m below meth c ls hsz hl C0 hex hT hP hS => ?_)
  subst hsz
  have hl : lv_has ls 5 [(0, .ref (ad 0)), (1, .int (nI iz)), (2, .int xz)] := hl
  have hx := C0.1; have hb := C0.2.1; have hown := C0.2.2.2.1; have hts := C0.2.2.2.2.1
  obtain ⟨sn, tl, rs, x, hX, hH, hHi, hRs, hTr, hSn⟩ := id hTT
  have hR : isR cy K ad g 215 rs.1 rs.2.1 rs.2.2.1 rs.2.2.2.1 rs.2.2.2.2 := hRs
  refine lv_aload_n hx hb dX4_dye_0 rfl (lv_at hl 0 rfl) ?_
  refine lv_iload_n hx hb dX4_dye_1 rfl (lv_at hl 1 rfl) ?_
  refine z_Vr_eq (As := [.int (nI iz)]) (rest := []) C0 hP hS hl.1 (m_X4_cordAt l _ hX hH hi) lk_X4_53 hX.n0 hX.o rfl rfl (Nat.le_of_ble_eq_true rfl) ⟨Nat.le_of_ble_eq_true rfl, Nat.le_of_ble_eq_true rfl⟩ rfl rfl ⟨Nat.zero_le _, Nat.zero_le _⟩ dX4_dye_2 (fun H locs hP hS => ?_)
  refine lv_astore_n (lv' := [(3, .ref (ad (1 + 2 + 4 * iz))), (0, .ref (ad 0)), (1, .int (nI iz)), (2, .int xz)]) hx hb dX4_dye_5 rfl hl (by decide) rfl (fun ls hl => ?_)
  refine lv_iload_n hx hb dX4_dye_6 rfl (lv_at hl 3 rfl) ?_
  refine z_thrown C0 hP hS (z_runSX (As := [.int xz]) (rest := []) C0 hT hP hS hl.1 (x_X4_checkHue_iae l hfl _ hbd) lk_X4_93 rfl rfl (Nat.le_of_ble_eq_true rfl) rfl rfl ⟨Nat.le_of_ble_eq_true rfl, Nat.le_of_ble_eq_true rfl⟩ ⟨Nat.le_of_ble_eq_true rfl, Nat.le_of_ble_eq_true rfl⟩ dX4_dye_7) (fun ce q9 H locs hP hS hce hcv hcl => ?_)
  exact z_outX C0 hex hP hS hce hcv hcl (Nat.le_refl _) (Nat.le_refl _)
set_option maxHeartbeats 4000000 in
set_option maxRecDepth 100000 in
theorem x_X4_placeOf_iob2 (l : Launch) (hfl : l.stackTraces = false) {D : va_G} {cy : Nat → ClassId} {K : Nat} {ad : Nat → Nat} {g : Nat → va_E} (sz : Nat) {st : Nat → Int32} {sv : Nat → Nat → Int32} {nx sz2 : Nat} {ns : Nat → Option Nat} {ss : Nat → Nat → Int32} {bu : Nat → Int32} {ln : Nat} {iz : Nat} {xz : Int32} {wz : Int32} (hTT : isT cy K ad g st sv nx sz2 ns ss bu ln) (hi : iz < 7) (hbd : xz < 0 ∨ 6 ≤ xz) : zXM l yX4_placeOf cX4_placeOf 5 (some .int) ({ frames := 10, cells := 1, slots := 6, locals := 160 } : Room) [.ref (ad 0), .int (nI iz), .int xz, .int wz] D cy K ad g sz zIOB := by
  refine z_metX (by decide) (Nat.le_of_ble_eq_true rfl) (fun p e s m below meth c ls hsz hl C0 hex hT hP hS => ?_)
  subst hsz
  have hl : lv_has ls 5 [(0, .ref (ad 0)), (1, .int (nI iz)), (2, .int xz), (3, .int wz)] := hl
  have hx := C0.1; have hb := C0.2.1; have hown := C0.2.2.2.1; have hts := C0.2.2.2.2.1
  obtain ⟨sn, tl, rs, x, hX, hH, hHi, hRs, hTr, hSn⟩ := id hTT
  have hR : isR cy K ad g 215 rs.1 rs.2.1 rs.2.2.1 rs.2.2.2.1 rs.2.2.2.2 := hRs
  refine lv_aload_n hx hb dX4_placeOf_0 rfl (lv_at hl 0 rfl) ?_
  refine lv_iload_n hx hb dX4_placeOf_1 rfl (lv_at hl 1 rfl) ?_
  refine z_Vr_eq (As := [.int (nI iz)]) (rest := []) C0 hP hS hl.1 (m_X4_cordAt l _ hX hH hi) lk_X4_53 hX.n0 hX.o rfl rfl (Nat.le_of_ble_eq_true rfl) ⟨Nat.le_of_ble_eq_true rfl, Nat.le_of_ble_eq_true rfl⟩ rfl rfl ⟨Nat.zero_le _, Nat.zero_le _⟩ dX4_placeOf_2 (fun H locs hP hS => ?_)
  refine lv_astore (lv' := [(4, .ref (ad (1 + 2 + 4 * iz))), (0, .ref (ad 0)), (1, .int (nI iz)), (2, .int xz), (3, .int wz)]) hx hb dX4_placeOf_5 hl (by decide) rfl (fun ls hl => ?_)
  refine lv_iload_n hx hb dX4_placeOf_7 rfl (lv_at hl 3 rfl) ?_
  refine z_thrown C0 hP hS (z_runSX (As := [.int xz]) (rest := []) C0 hT hP hS hl.1 (x_X4_checkPlace_iob l hfl _ hbd) lk_X4_80 rfl rfl (Nat.le_of_ble_eq_true rfl) rfl rfl ⟨Nat.le_of_ble_eq_true rfl, Nat.le_of_ble_eq_true rfl⟩ ⟨Nat.le_of_ble_eq_true rfl, Nat.le_of_ble_eq_true rfl⟩ dX4_placeOf_8) (fun ce q9 H locs hP hS hce hcv hcl => ?_)
  exact z_outX C0 hex hP hS hce hcv hcl (Nat.le_refl _) (Nat.le_refl _)
set_option maxHeartbeats 4000000 in
set_option maxRecDepth 100000 in
theorem x_X4_byHue_iae (l : Launch) (hfl : l.stackTraces = false) {D : va_G} {cy : Nat → ClassId} {K : Nat} {ad : Nat → Nat} {g : Nat → va_E} (sz : Nat) {st : Nat → Int32} {sv : Nat → Nat → Int32} {nx sz2 : Nat} {ns : Nat → Option Nat} {ss : Nat → Nat → Int32} {bu : Nat → Int32} {ln : Nat} {xz : Int32} (hTT : isT cy K ad g st sv nx sz2 ns ss bu ln) (hbd : xz < 0 ∨ 6 ≤ xz) : zXM l yX4_byHue cX4_byHue 2 (some .int) ({ frames := 10, cells := 1, slots := 6, locals := 160 } : Room) [.ref (ad 0), .int xz] D cy K ad g sz zIAE := by
  refine z_metX (by decide) (Nat.le_of_ble_eq_true rfl) (fun p e s m below meth c ls hsz hl C0 hex hT hP hS => ?_)
  subst hsz
  have hl : lv_has ls 2 [(0, .ref (ad 0)), (1, .int xz)] := hl
  have hx := C0.1; have hb := C0.2.1; have hown := C0.2.2.2.1; have hts := C0.2.2.2.2.1
  obtain ⟨sn, tl, rs, x, hX, hH, hHi, hRs, hTr, hSn⟩ := id hTT
  have hR : isR cy K ad g 215 rs.1 rs.2.1 rs.2.2.1 rs.2.2.2.1 rs.2.2.2.2 := hRs
  refine lv_iload_n hx hb dX4_byHue_0 rfl (lv_at hl 1 rfl) ?_
  refine z_thrown C0 hP hS (z_runSX (As := [.int xz]) (rest := []) C0 hT hP hS hl.1 (x_X4_checkHue_iae l hfl _ hbd) lk_X4_93 rfl rfl (Nat.le_of_ble_eq_true rfl) rfl rfl ⟨Nat.le_of_ble_eq_true rfl, Nat.le_of_ble_eq_true rfl⟩ ⟨Nat.le_of_ble_eq_true rfl, Nat.le_of_ble_eq_true rfl⟩ dX4_byHue_1) (fun ce q9 H locs hP hS hce hcv hcl => ?_)
  exact z_outX C0 hex hP hS hce hcv hcl (Nat.le_refl _) (Nat.le_refl _)
set_option maxHeartbeats 4000000 in
set_option maxRecDepth 100000 in
theorem x_X4_keep_iae (l : Launch) (hfl : l.stackTraces = false) {D : va_G} {cy : Nat → ClassId} {K : Nat} {ad : Nat → Nat} {g : Nat → va_E} (sz : Nat) {st : Nat → Int32} {sv : Nat → Nat → Int32} {nx sz2 : Nat} {ns : Nat → Option Nat} {ss : Nat → Nat → Int32} {bu : Nat → Int32} {ln : Nat} {xz : Int32} (hTT : isT cy K ad g st sv nx sz2 ns ss bu ln) (hbd : xz < 0 ∨ 2 ≤ xz) : zXM l yX4_keep cX4_keep 3 (some .int) ({ frames := 10, cells := 1, slots := 6, locals := 160 } : Room) [.ref (ad 0), .int xz] D cy K ad g sz zIAE := by
  refine z_metX (by decide) (Nat.le_of_ble_eq_true rfl) (fun p e s m below meth c ls hsz hl C0 hex hT hP hS => ?_)
  subst hsz
  have hl : lv_has ls 3 [(0, .ref (ad 0)), (1, .int xz)] := hl
  have hx := C0.1; have hb := C0.2.1; have hown := C0.2.2.2.1; have hts := C0.2.2.2.2.1
  obtain ⟨sn, tl, rs, x, hX, hH, hHi, hRs, hTr, hSn⟩ := id hTT
  have hR : isR cy K ad g 215 rs.1 rs.2.1 rs.2.2.1 rs.2.2.2.1 rs.2.2.2.2 := hRs
  refine lv_iload_n hx hb dX4_keep_0 rfl (lv_at hl 1 rfl) ?_
  refine z_thrown C0 hP hS (z_runSX (As := [.int xz]) (rest := []) C0 hT hP hS hl.1 (x_X4_checkSlot_iae l hfl _ hbd) lk_X4_131 rfl rfl (Nat.le_of_ble_eq_true rfl) rfl rfl ⟨Nat.le_of_ble_eq_true rfl, Nat.le_of_ble_eq_true rfl⟩ ⟨Nat.le_of_ble_eq_true rfl, Nat.le_of_ble_eq_true rfl⟩ dX4_keep_1) (fun ce q9 H locs hP hS hce hcv hcl => ?_)
  exact z_outX C0 hex hP hS hce hcv hcl (Nat.le_refl _) (Nat.le_refl _)
set_option maxHeartbeats 4000000 in
set_option maxRecDepth 100000 in
theorem x_X4_goBack_iae (l : Launch) (hfl : l.stackTraces = false) {D : va_G} {cy : Nat → ClassId} {K : Nat} {ad : Nat → Nat} {g : Nat → va_E} (sz : Nat) {st : Nat → Int32} {sv : Nat → Nat → Int32} {nx sz2 : Nat} {ns : Nat → Option Nat} {ss : Nat → Nat → Int32} {bu : Nat → Int32} {ln : Nat} {xz : Int32} (hTT : isT cy K ad g st sv nx sz2 ns ss bu ln) (hbd : xz < 0 ∨ 2 ≤ xz) : zXM l yX4_goBack cX4_goBack 3 (some .int) ({ frames := 10, cells := 1, slots := 6, locals := 160 } : Room) [.ref (ad 0), .int xz] D cy K ad g sz zIAE := by
  refine z_metX (by decide) (Nat.le_of_ble_eq_true rfl) (fun p e s m below meth c ls hsz hl C0 hex hT hP hS => ?_)
  subst hsz
  have hl : lv_has ls 3 [(0, .ref (ad 0)), (1, .int xz)] := hl
  have hx := C0.1; have hb := C0.2.1; have hown := C0.2.2.2.1; have hts := C0.2.2.2.2.1
  obtain ⟨sn, tl, rs, x, hX, hH, hHi, hRs, hTr, hSn⟩ := id hTT
  have hR : isR cy K ad g 215 rs.1 rs.2.1 rs.2.2.1 rs.2.2.2.1 rs.2.2.2.2 := hRs
  refine lv_iload_n hx hb dX4_goBack_0 rfl (lv_at hl 1 rfl) ?_
  refine z_thrown C0 hP hS (z_runSX (As := [.int xz]) (rest := []) C0 hT hP hS hl.1 (x_X4_checkSlot_iae l hfl _ hbd) lk_X4_131 rfl rfl (Nat.le_of_ble_eq_true rfl) rfl rfl ⟨Nat.le_of_ble_eq_true rfl, Nat.le_of_ble_eq_true rfl⟩ ⟨Nat.le_of_ble_eq_true rfl, Nat.le_of_ble_eq_true rfl⟩ dX4_goBack_1) (fun ce q9 H locs hP hS hce hcv hcl => ?_)
  exact z_outX C0 hex hP hS hce hcv hcl (Nat.le_refl _) (Nat.le_refl _)
set_option maxHeartbeats 4000000 in
set_option maxRecDepth 100000 in
theorem x_X4_set_iae (l : Launch) (hfl : l.stackTraces = false) {D : va_G} {cy : Nat → ClassId} {K : Nat} {ad : Nat → Nat} {g : Nat → va_E} (sz : Nat) {st : Nat → Int32} {sv : Nat → Nat → Int32} {nx sz2 : Nat} {ns : Nat → Option Nat} {ss : Nat → Nat → Int32} {bu : Nat → Int32} {ln : Nat} {xz : Int32} (hTT : isT cy K ad g st sv nx sz2 ns ss bu ln) (hbd : xz < 20 ∨ 99 < xz) : zXM l yX4_set cX4_set 3 (some .int) ({ frames := 10, cells := 1, slots := 6, locals := 160 } : Room) [.ref (ad 0), .int xz] D cy K ad g sz zIAE := by
  refine z_metX (by decide) (Nat.le_of_ble_eq_true rfl) (fun p e s m below meth c ls hsz hl C0 hex hT hP hS => ?_)
  subst hsz
  have hl : lv_has ls 3 [(0, .ref (ad 0)), (1, .int xz)] := hl
  have hx := C0.1; have hb := C0.2.1; have hown := C0.2.2.2.1; have hts := C0.2.2.2.2.1
  obtain ⟨sn, tl, rs, x, hX, hH, hHi, hRs, hTr, hSn⟩ := id hTT
  have hR : isR cy K ad g 215 rs.1 rs.2.1 rs.2.2.1 rs.2.2.2.1 rs.2.2.2.2 := hRs
  refine lv_iload_n hx hb dX4_set_0 rfl (lv_at hl 1 rfl) ?_
  refine lv_bipush (v := 20) hx hb dX4_set_1 (by decide) ?_
  refine lv_icmp_lt (tgt := 12) hx hb dX4_set_3 (by decide) (fun c_3 => ?_) (fun c_3 => ?_)
  · exact z_throw C0 rfl hfl hex hT hP hS hl.1 (text := "no such room") thf_iae (by decide +kernel) dX4_set_12 dX4_set_15 dX4_set_16 dX4_set_18 dX4_set_21 (Nat.le_of_ble_eq_true rfl) (Nat.le_of_ble_eq_true rfl) (Nat.le_of_ble_eq_true rfl) (Nat.le_of_ble_eq_true rfl) (Nat.le_of_ble_eq_true rfl) (Nat.le_of_ble_eq_true rfl) (Nat.le_of_ble_eq_true rfl)
  · refine lv_iload_n hx hb dX4_set_6 rfl (lv_at hl 1 rfl) ?_
    refine lv_bipush (v := 99) hx hb dX4_set_7 (by decide) ?_
    refine lv_icmp_le (tgt := 22) hx hb dX4_set_9 (by decide) (fun c_9 => (zbad2 hbd c_3 c_9).elim) (fun c_9 => ?_)
    exact z_throw C0 rfl hfl hex hT hP hS hl.1 (text := "no such room") thf_iae (by decide +kernel) dX4_set_12 dX4_set_15 dX4_set_16 dX4_set_18 dX4_set_21 (Nat.le_of_ble_eq_true rfl) (Nat.le_of_ble_eq_true rfl) (Nat.le_of_ble_eq_true rfl) (Nat.le_of_ble_eq_true rfl) (Nat.le_of_ble_eq_true rfl) (Nat.le_of_ble_eq_true rfl) (Nat.le_of_ble_eq_true rfl)
set_option maxHeartbeats 4000000 in
set_option maxRecDepth 100000 in
theorem x_X4_append_iae (l : Launch) (hfl : l.stackTraces = false) {D : va_G} {cy : Nat → ClassId} {K : Nat} {ad : Nat → Nat} {g : Nat → va_E} (sz : Nat) {st : Nat → Int32} {sv : Nat → Nat → Int32} {nx sz2 : Nat} {ns : Nat → Option Nat} {ss : Nat → Nat → Int32} {bu : Nat → Int32} {ln : Nat} {xz : Int32} (hTT : isT cy K ad g st sv nx sz2 ns ss bu ln) (hbd : xz < 33 ∨ 126 < xz) : zXM l yX4_append cX4_append 2 (some .int) ({ frames := 10, cells := 1, slots := 6, locals := 160 } : Room) [.ref (ad 0), .int xz] D cy K ad g sz zIAE := by
  refine z_metX (by decide) (Nat.le_of_ble_eq_true rfl) (fun p e s m below meth c ls hsz hl C0 hex hT hP hS => ?_)
  subst hsz
  have hl : lv_has ls 2 [(0, .ref (ad 0)), (1, .int xz)] := hl
  have hx := C0.1; have hb := C0.2.1; have hown := C0.2.2.2.1; have hts := C0.2.2.2.2.1
  obtain ⟨sn, tl, rs, x, hX, hH, hHi, hRs, hTr, hSn⟩ := id hTT
  have hR : isR cy K ad g 215 rs.1 rs.2.1 rs.2.2.1 rs.2.2.2.1 rs.2.2.2.2 := hRs
  refine lv_iload_n hx hb dX4_append_0 rfl (lv_at hl 1 rfl) ?_
  refine lv_bipush (v := 33) hx hb dX4_append_1 (by decide) ?_
  refine lv_icmp_lt (tgt := 12) hx hb dX4_append_3 (by decide) (fun c_3 => ?_) (fun c_3 => ?_)
  · exact z_throw C0 rfl hfl hex hT hP hS hl.1 (text := "no such character") thf_iae (by decide +kernel) dX4_append_12 dX4_append_15 dX4_append_16 dX4_append_18 dX4_append_21 (Nat.le_of_ble_eq_true rfl) (Nat.le_of_ble_eq_true rfl) (Nat.le_of_ble_eq_true rfl) (Nat.le_of_ble_eq_true rfl) (Nat.le_of_ble_eq_true rfl) (Nat.le_of_ble_eq_true rfl) (Nat.le_of_ble_eq_true rfl)
  · refine lv_iload_n hx hb dX4_append_6 rfl (lv_at hl 1 rfl) ?_
    refine lv_bipush (v := 126) hx hb dX4_append_7 (by decide) ?_
    refine lv_icmp_le (tgt := 22) hx hb dX4_append_9 (by decide) (fun c_9 => (zbad2 hbd c_3 c_9).elim) (fun c_9 => ?_)
    exact z_throw C0 rfl hfl hex hT hP hS hl.1 (text := "no such character") thf_iae (by decide +kernel) dX4_append_12 dX4_append_15 dX4_append_16 dX4_append_18 dX4_append_21 (Nat.le_of_ble_eq_true rfl) (Nat.le_of_ble_eq_true rfl) (Nat.le_of_ble_eq_true rfl) (Nat.le_of_ble_eq_true rfl) (Nat.le_of_ble_eq_true rfl) (Nat.le_of_ble_eq_true rfl) (Nat.le_of_ble_eq_true rfl)
set_option maxHeartbeats 4000000 in
set_option maxRecDepth 100000 in
theorem x_X4_append_ise (l : Launch) (hfl : l.stackTraces = false) {D : va_G} {cy : Nat → ClassId} {K : Nat} {ad : Nat → Nat} {g : Nat → va_E} (sz : Nat) {st : Nat → Int32} {sv : Nat → Nat → Int32} {nx sz2 : Nat} {ns : Nat → Option Nat} {ss : Nat → Nat → Int32} {bu : Nat → Int32} {ln : Nat} {xz : Int32} (hTT : isT cy K ad g st sv nx sz2 ns ss bu ln) (h1 : ¬ xz < 33) (h2 : xz ≤ 126) (hln : ln = 60) : zXM l yX4_append cX4_append 2 (some .int) ({ frames := 10, cells := 1, slots := 6, locals := 160 } : Room) [.ref (ad 0), .int xz] D cy K ad g sz zISE := by
  refine z_metX (by decide) (Nat.le_of_ble_eq_true rfl) (fun p e s m below meth c ls hsz hl C0 hex hT hP hS => ?_)
  subst hsz
  have hl : lv_has ls 2 [(0, .ref (ad 0)), (1, .int xz)] := hl
  have hx := C0.1; have hb := C0.2.1; have hown := C0.2.2.2.1; have hts := C0.2.2.2.2.1
  obtain ⟨sn, tl, rs, x, hX, hH, hHi, hRs, hTr, hSn⟩ := id hTT
  have hR : isR cy K ad g 215 rs.1 rs.2.1 rs.2.2.1 rs.2.2.2.1 rs.2.2.2.2 := hRs
  refine lv_iload_n hx hb dX4_append_0 rfl (lv_at hl 1 rfl) ?_
  refine lv_bipush (v := 33) hx hb dX4_append_1 (by decide) ?_
  refine lv_icmp_lt (tgt := 12) hx hb dX4_append_3 (by decide) (fun c_3 => absurd c_3 h1) (fun c_3 => ?_)
  refine lv_iload_n hx hb dX4_append_6 rfl (lv_at hl 1 rfl) ?_
  refine lv_bipush (v := 126) hx hb dX4_append_7 (by decide) ?_
  refine lv_icmp_le (tgt := 22) hx hb dX4_append_9 (by decide) (fun c_9 => ?_) (fun c_9 => absurd h2 c_9)
  refine lv_aload_n hx hb dX4_append_22 rfl (lv_at hl 0 rfl) ?_
  refine z_get C0 hP hX.n0 hX.o fd_X4_31 rfl dX4_append_23 ?_
  refine lv_bipush (v := 60) hx hb dX4_append_26 (by decide) ?_
  refine lv_icmp_lt (tgt := 41) hx hb dX4_append_28 (by decide) (fun c_28 => absurd c_28 (by rw [hln]; decide)) (fun c_28 => ?_)
  exact z_throw C0 rfl hfl hex hT hP hS hl.1 (text := "the buffer is full") thf_ise (by decide +kernel) dX4_append_31 dX4_append_34 dX4_append_35 dX4_append_37 dX4_append_40 (Nat.le_of_ble_eq_true rfl) (Nat.le_of_ble_eq_true rfl) (Nat.le_of_ble_eq_true rfl) (Nat.le_of_ble_eq_true rfl) (Nat.le_of_ble_eq_true rfl) (Nat.le_of_ble_eq_true rfl) (Nat.le_of_ble_eq_true rfl)
set_option maxHeartbeats 4000000 in
set_option maxRecDepth 100000 in
theorem x_X4_undo_ise (l : Launch) (hfl : l.stackTraces = false) {D : va_G} {cy : Nat → ClassId} {K : Nat} {ad : Nat → Nat} {g : Nat → va_E} (sz : Nat) {st : Nat → Int32} {sv : Nat → Nat → Int32} {nx sz2 : Nat} {ns : Nat → Option Nat} {ss : Nat → Nat → Int32} {bu : Nat → Int32} {ln : Nat}  (hTT : isT cy K ad g st sv nx sz2 ns ss bu ln) (hz : sz2 = 0) : zXM l yX4_undo cX4_undo 1 (some .int) ({ frames := 10, cells := 1, slots := 6, locals := 160 } : Room) [.ref (ad 0)] D cy K ad g sz zISE := by
  refine z_metX (by decide) (Nat.le_of_ble_eq_true rfl) (fun p e s m below meth c ls hsz hl C0 hex hT hP hS => ?_)
  subst hsz
  have hl : lv_has ls 1 [(0, .ref (ad 0))] := hl
  have hx := C0.1; have hb := C0.2.1; have hown := C0.2.2.2.1; have hts := C0.2.2.2.2.1
  obtain ⟨sn, tl, rs, x, hX, hH, hHi, hRs, hTr, hSn⟩ := id hTT
  have hR : isR cy K ad g 215 rs.1 rs.2.1 rs.2.2.1 rs.2.2.2.1 rs.2.2.2.2 := hRs
  refine lv_aload_n hx hb dX4_undo_0 rfl (lv_at hl 0 rfl) ?_
  refine z_get C0 hP hX.n0 hX.o fd_X4_19 rfl dX4_undo_1 ?_
  obtain ⟨rwY, hY, hrwY, hHa⟩ := id hHi
  refine z_get C0 hP hY.n0 hY.o fd_X4_142 rfl dX4_undo_4 ?_
  refine lv_if_ne (tgt := 20) hx hb dX4_undo_7 (by decide) (fun c_7 => (c_7 (by rw [hz]; rfl)).elim) (fun c_7 => ?_)
  exact z_throw C0 rfl hfl hex hT hP hS hl.1 (text := "no saved state") thf_ise (by decide +kernel) dX4_undo_10 dX4_undo_13 dX4_undo_14 dX4_undo_16 dX4_undo_19 (Nat.le_of_ble_eq_true rfl) (Nat.le_of_ble_eq_true rfl) (Nat.le_of_ble_eq_true rfl) (Nat.le_of_ble_eq_true rfl) (Nat.le_of_ble_eq_true rfl) (Nat.le_of_ble_eq_true rfl) (Nat.le_of_ble_eq_true rfl)
set_option maxHeartbeats 4000000 in
set_option maxRecDepth 100000 in
theorem x_X4_cordOf_iae (l : Launch) (hfl : l.stackTraces = false) {D : va_G} {cy : Nat → ClassId} {K : Nat} {ad : Nat → Nat} {g : Nat → va_E} (sz : Nat) {st : Nat → Int32} {sv : Nat → Nat → Int32} {nx sz2 : Nat} {ns : Nat → Option Nat} {ss : Nat → Nat → Int32} {bu : Nat → Int32} {ln : Nat} {iz : Nat} {wz : Int32} (hTT : isT cy K ad g st sv nx sz2 ns ss bu ln) (hi : iz < 7) (hw : wz < 0 ∨ 8 ≤ wz) : zXM l yX4_cordOf cX4_cordOf 4 (some .int) ({ frames := 10, cells := 1, slots := 6, locals := 160 } : Room) [.ref (ad 0), .int (nI iz), .int wz] D cy K ad g sz zIAE := by
  refine z_metX (by decide) (Nat.le_of_ble_eq_true rfl) (fun p e s m below meth c ls hsz hl C0 hex hT hP hS => ?_)
  subst hsz
  have hl : lv_has ls 4 [(0, .ref (ad 0)), (1, .int (nI iz)), (2, .int wz)] := hl
  have hx := C0.1; have hb := C0.2.1; have hown := C0.2.2.2.1; have hts := C0.2.2.2.2.1
  obtain ⟨sn, tl, rs, x, hX, hH, hHi, hRs, hTr, hSn⟩ := id hTT
  have hR : isR cy K ad g 215 rs.1 rs.2.1 rs.2.2.1 rs.2.2.2.1 rs.2.2.2.2 := hRs
  refine lv_aload_n hx hb dX4_cordOf_0 rfl (lv_at hl 0 rfl) ?_
  refine lv_iload_n hx hb dX4_cordOf_1 rfl (lv_at hl 1 rfl) ?_
  refine z_Vr_eq (As := [.int (nI iz)]) (rest := []) C0 hP hS hl.1 (m_X4_cordAt l _ hX hH hi) lk_X4_53 hX.n0 hX.o rfl rfl (Nat.le_of_ble_eq_true rfl) ⟨Nat.le_of_ble_eq_true rfl, Nat.le_of_ble_eq_true rfl⟩ rfl rfl ⟨Nat.zero_le _, Nat.zero_le _⟩ dX4_cordOf_2 (fun H locs hP hS => ?_)
  refine lv_astore_n (lv' := [(3, .ref (ad (1 + 2 + 4 * iz))), (0, .ref (ad 0)), (1, .int (nI iz)), (2, .int wz)]) hx hb dX4_cordOf_5 rfl hl (by decide) rfl (fun ls hl => ?_)
  refine lv_iload_n hx hb dX4_cordOf_6 rfl (lv_at hl 3 rfl) ?_
  refine lv_tableOut (tgt := 92) hx C0.2.1 dX4_cordOf_7 (zTab (b := 8) (n := 7) hw rfl) (by decide) ?_
  exact z_throw C0 rfl hfl hex hT hP hS hl.1 (text := "a cord has no such number") thf_iae (by decide +kernel) dX4_cordOf_92 dX4_cordOf_95 dX4_cordOf_96 dX4_cordOf_98 dX4_cordOf_101 (Nat.le_of_ble_eq_true rfl) (Nat.le_of_ble_eq_true rfl) (Nat.le_of_ble_eq_true rfl) (Nat.le_of_ble_eq_true rfl) (Nat.le_of_ble_eq_true rfl) (Nat.le_of_ble_eq_true rfl) (Nat.le_of_ble_eq_true rfl)
set_option maxHeartbeats 4000000 in
set_option maxRecDepth 100000 in
theorem x_X4_placeOf_iae (l : Launch) (hfl : l.stackTraces = false) {D : va_G} {cy : Nat → ClassId} {K : Nat} {ad : Nat → Nat} {g : Nat → va_E} (sz : Nat) {st : Nat → Int32} {sv : Nat → Nat → Int32} {nx sz2 : Nat} {ns : Nat → Option Nat} {ss : Nat → Nat → Int32} {bu : Nat → Int32} {ln : Nat} {iz jz : Nat} {wz : Int32} (hTT : isT cy K ad g st sv nx sz2 ns ss bu ln) (hi : iz < 7) (hj : jz < 6) (hw : wz < 0 ∨ 4 ≤ wz) : zXM l yX4_placeOf cX4_placeOf 5 (some .int) ({ frames := 10, cells := 1, slots := 6, locals := 160 } : Room) [.ref (ad 0), .int (nI iz), .int (nI jz), .int wz] D cy K ad g sz zIAE := by
  refine z_metX (by decide) (Nat.le_of_ble_eq_true rfl) (fun p e s m below meth c ls hsz hl C0 hex hT hP hS => ?_)
  subst hsz
  have hl : lv_has ls 5 [(0, .ref (ad 0)), (1, .int (nI iz)), (2, .int (nI jz)), (3, .int wz)] := hl
  have hx := C0.1; have hb := C0.2.1; have hown := C0.2.2.2.1; have hts := C0.2.2.2.2.1
  obtain ⟨sn, tl, rs, x, hX, hH, hHi, hRs, hTr, hSn⟩ := id hTT
  have hR : isR cy K ad g 215 rs.1 rs.2.1 rs.2.2.1 rs.2.2.2.1 rs.2.2.2.2 := hRs
  refine lv_aload_n hx hb dX4_placeOf_0 rfl (lv_at hl 0 rfl) ?_
  refine lv_iload_n hx hb dX4_placeOf_1 rfl (lv_at hl 1 rfl) ?_
  refine z_Vr_eq (As := [.int (nI iz)]) (rest := []) C0 hP hS hl.1 (m_X4_cordAt l _ hX hH hi) lk_X4_53 hX.n0 hX.o rfl rfl (Nat.le_of_ble_eq_true rfl) ⟨Nat.le_of_ble_eq_true rfl, Nat.le_of_ble_eq_true rfl⟩ rfl rfl ⟨Nat.zero_le _, Nat.zero_le _⟩ dX4_placeOf_2 (fun H locs hP hS => ?_)
  refine lv_astore (lv' := [(4, .ref (ad (1 + 2 + 4 * iz))), (0, .ref (ad 0)), (1, .int (nI iz)), (2, .int (nI jz)), (3, .int wz)]) hx hb dX4_placeOf_5 hl (by decide) rfl (fun ls hl => ?_)
  refine lv_iload_n hx hb dX4_placeOf_7 rfl (lv_at hl 3 rfl) ?_
  refine z_Sv_eq (As := [.int (nI jz)]) (rest := []) C0 hP hS hl.1 (m_X4_checkPlace l _ hj) lk_X4_80 rfl rfl (Nat.le_of_ble_eq_true rfl) ⟨Nat.le_of_ble_eq_true rfl, Nat.le_of_ble_eq_true rfl⟩ rfl rfl ⟨Nat.zero_le _, Nat.zero_le _⟩ dX4_placeOf_8 (fun H locs hP hS => ?_)
  refine lv_iload_n hx hb dX4_placeOf_11 rfl (lv_at hl 4 rfl) ?_
  refine lv_tableOut (tgt := 86) hx C0.2.1 dX4_placeOf_12 (zTab (b := 4) (n := 3) hw rfl) (by decide) ?_
  exact z_throw C0 rfl hfl hex hT hP hS hl.1 (text := "a place has no such number") thf_iae (by decide +kernel) dX4_placeOf_86 dX4_placeOf_89 dX4_placeOf_90 dX4_placeOf_92 dX4_placeOf_95 (Nat.le_of_ble_eq_true rfl) (Nat.le_of_ble_eq_true rfl) (Nat.le_of_ble_eq_true rfl) (Nat.le_of_ble_eq_true rfl) (Nat.le_of_ble_eq_true rfl) (Nat.le_of_ble_eq_true rfl) (Nat.le_of_ble_eq_true rfl)
set_option maxHeartbeats 4000000 in
set_option maxRecDepth 100000 in
theorem x_X4_count_iae (l : Launch) (hfl : l.stackTraces = false) {D : va_G} {cy : Nat → ClassId} {K : Nat} {ad : Nat → Nat} {g : Nat → va_E} (sz : Nat) {st : Nat → Int32} {sv : Nat → Nat → Int32} {nx sz2 : Nat} {ns : Nat → Option Nat} {ss : Nat → Nat → Int32} {bu : Nat → Int32} {ln : Nat} {wz : Int32} (hTT : isT cy K ad g st sv nx sz2 ns ss bu ln) (hw : wz < 0 ∨ 10 ≤ wz) : zXM l yX4_count cX4_count 2 (some .int) ({ frames := 10, cells := 1, slots := 6, locals := 160 } : Room) [.ref (ad 0), .int wz] D cy K ad g sz zIAE := by
  refine z_metX (by decide) (Nat.le_of_ble_eq_true rfl) (fun p e s m below meth c ls hsz hl C0 hex hT hP hS => ?_)
  subst hsz
  have hl : lv_has ls 2 [(0, .ref (ad 0)), (1, .int wz)] := hl
  have hx := C0.1; have hb := C0.2.1; have hown := C0.2.2.2.1; have hts := C0.2.2.2.2.1
  obtain ⟨sn, tl, rs, x, hX, hH, hHi, hRs, hTr, hSn⟩ := id hTT
  have hR : isR cy K ad g 215 rs.1 rs.2.1 rs.2.2.1 rs.2.2.2.1 rs.2.2.2.2 := hRs
  refine lv_iload_n hx hb dX4_count_0 rfl (lv_at hl 1 rfl) ?_
  refine lv_tableOut (tgt := 136) hx C0.2.1 dX4_count_1 (zTab (b := 10) (n := 9) hw rfl) (by decide) ?_
  exact z_throw C0 rfl hfl hex hT hP hS hl.1 (text := "there is no such number") thf_iae (by decide +kernel) dX4_count_136 dX4_count_139 dX4_count_140 dX4_count_142 dX4_count_145 (Nat.le_of_ble_eq_true rfl) (Nat.le_of_ble_eq_true rfl) (Nat.le_of_ble_eq_true rfl) (Nat.le_of_ble_eq_true rfl) (Nat.le_of_ble_eq_true rfl) (Nat.le_of_ble_eq_true rfl) (Nat.le_of_ble_eq_true rfl)
set_option maxHeartbeats 4000000 in
set_option maxRecDepth 100000 in
theorem x_X4_part_iae (l : Launch) (hfl : l.stackTraces = false) {D : va_G} {cy : Nat → ClassId} {K : Nat} {ad : Nat → Nat} {g : Nat → va_E} (sz : Nat) {st : Nat → Int32} {sv : Nat → Nat → Int32} {nx sz2 : Nat} {ns : Nat → Option Nat} {ss : Nat → Nat → Int32} {bu : Nat → Int32} {ln : Nat} {iz : Nat} {rz : Int32} (hTT : isT cy K ad g st sv nx sz2 ns ss bu ln) (hi : iz < 7) (hr0 : rz < 0) : zXM l yX4_part cX4_part 4 (some .int) ({ frames := 10, cells := 1, slots := 6, locals := 160 } : Room) [.ref (ad 0), .int (nI iz), .int rz] D cy K ad g sz zIAE := by
  refine z_metX (by decide) (Nat.le_of_ble_eq_true rfl) (fun p e s m below meth c ls hsz hl C0 hex hT hP hS => ?_)
  subst hsz
  have hl : lv_has ls 4 [(0, .ref (ad 0)), (1, .int (nI iz)), (2, .int rz)] := hl
  have hx := C0.1; have hb := C0.2.1; have hown := C0.2.2.2.1; have hts := C0.2.2.2.2.1
  obtain ⟨sn, tl, rs, x, hX, hH, hHi, hRs, hTr, hSn⟩ := id hTT
  have hR : isR cy K ad g 215 rs.1 rs.2.1 rs.2.2.1 rs.2.2.2.1 rs.2.2.2.2 := hRs
  refine lv_aload_n hx hb dX4_part_0 rfl (lv_at hl 0 rfl) ?_
  refine lv_iload_n hx hb dX4_part_1 rfl (lv_at hl 1 rfl) ?_
  refine z_Vr_eq (As := [.int (nI iz)]) (rest := []) C0 hP hS hl.1 (m_X4_cordAt l _ hX hH hi) lk_X4_53 hX.n0 hX.o rfl rfl (Nat.le_of_ble_eq_true rfl) ⟨Nat.le_of_ble_eq_true rfl, Nat.le_of_ble_eq_true rfl⟩ rfl rfl ⟨Nat.zero_le _, Nat.zero_le _⟩ dX4_part_2 (fun H locs hP hS => ?_)
  refine lv_astore_n (lv' := [(3, .ref (ad (1 + 2 + 4 * iz))), (0, .ref (ad 0)), (1, .int (nI iz)), (2, .int rz)]) hx hb dX4_part_5 rfl hl (by decide) rfl (fun ls hl => ?_)
  refine lv_iload_n hx hb dX4_part_6 rfl (lv_at hl 3 rfl) ?_
  refine lv_if_ge (tgt := 20) hx hb dX4_part_7 (by decide) (fun c_7 => absurd hr0 (Int32.not_lt.mpr c_7)) (fun c_7 => ?_)
  exact z_throw C0 rfl hfl hex hT hP hS hl.1 (text := "ranks begin with 0") thf_iae (by decide +kernel) dX4_part_10 dX4_part_13 dX4_part_14 dX4_part_16 dX4_part_19 (Nat.le_of_ble_eq_true rfl) (Nat.le_of_ble_eq_true rfl) (Nat.le_of_ble_eq_true rfl) (Nat.le_of_ble_eq_true rfl) (Nat.le_of_ble_eq_true rfl) (Nat.le_of_ble_eq_true rfl) (Nat.le_of_ble_eq_true rfl)
set_option maxHeartbeats 4000000 in
set_option maxRecDepth 100000 in
theorem x_X4_cordsFor_iae (l : Launch) (hfl : l.stackTraces = false) {D : va_G} {cy : Nat → ClassId} {K : Nat} {ad : Nat → Nat} {g : Nat → va_E} (sz : Nat) {st : Nat → Int32} {sv : Nat → Nat → Int32} {nx sz2 : Nat} {ns : Nat → Option Nat} {ss : Nat → Nat → Int32} {bu : Nat → Int32} {ln : Nat} {sum wz : Int32} (hTT : isT cy K ad g st sv nx sz2 ns ss bu ln) (hbd : sum < 1 ∨ 9999999 < sum) : zXM l yX4_cordsFor cX4_cordsFor 3 (some .int) ({ frames := 10, cells := 1, slots := 6, locals := 160 } : Room) [.ref (ad 0), .int sum, .int wz] D cy K ad g sz zIAE := by
  refine z_metX (by decide) (Nat.le_of_ble_eq_true rfl) (fun p e s m below meth c ls hsz hl C0 hex hT hP hS => ?_)
  subst hsz
  have hl : lv_has ls 3 [(0, .ref (ad 0)), (1, .int sum), (2, .int wz)] := hl
  have hx := C0.1; have hb := C0.2.1; have hown := C0.2.2.2.1; have hts := C0.2.2.2.2.1
  obtain ⟨sn, tl, rs, x, hX, hH, hHi, hRs, hTr, hSn⟩ := id hTT
  have hR : isR cy K ad g 215 rs.1 rs.2.1 rs.2.2.1 rs.2.2.2.1 rs.2.2.2.2 := hRs
  refine lv_iload_n hx hb dX4_cordsFor_0 rfl (lv_at hl 1 rfl) ?_
  refine lv_iconst (v := 1) hx hb dX4_cordsFor_1 (by decide) ?_
  refine lv_icmp_lt (tgt := 11) hx hb dX4_cordsFor_2 (by decide) (fun c_2 => ?_) (fun c_2 => ?_)
  · exact z_throw C0 rfl hfl hex hT hP hS hl.1 (text := "no such sum") thf_iae (by decide +kernel) dX4_cordsFor_11 dX4_cordsFor_14 dX4_cordsFor_15 dX4_cordsFor_17 dX4_cordsFor_20 (Nat.le_of_ble_eq_true rfl) (Nat.le_of_ble_eq_true rfl) (Nat.le_of_ble_eq_true rfl) (Nat.le_of_ble_eq_true rfl) (Nat.le_of_ble_eq_true rfl) (Nat.le_of_ble_eq_true rfl) (Nat.le_of_ble_eq_true rfl)
  · refine lv_iload_n hx hb dX4_cordsFor_5 rfl (lv_at hl 1 rfl) ?_
    refine lv_ldc hx hb hown (hts _ q526) dX4_cordsFor_6 ?_
    refine lv_icmp_le (tgt := 21) hx hb dX4_cordsFor_8 (by decide) (fun c_8 => (zbad2 hbd c_2 c_8).elim) (fun c_8 => ?_)
    exact z_throw C0 rfl hfl hex hT hP hS hl.1 (text := "no such sum") thf_iae (by decide +kernel) dX4_cordsFor_11 dX4_cordsFor_14 dX4_cordsFor_15 dX4_cordsFor_17 dX4_cordsFor_20 (Nat.le_of_ble_eq_true rfl) (Nat.le_of_ble_eq_true rfl) (Nat.le_of_ble_eq_true rfl) (Nat.le_of_ble_eq_true rfl) (Nat.le_of_ble_eq_true rfl) (Nat.le_of_ble_eq_true rfl) (Nat.le_of_ble_eq_true rfl)
set_option maxHeartbeats 4000000 in
set_option maxRecDepth 100000 in
theorem x_X4_cordsFor_iae2 (l : Launch) (hfl : l.stackTraces = false) {D : va_G} {cy : Nat → ClassId} {K : Nat} {ad : Nat → Nat} {g : Nat → va_E} (sz : Nat) {st : Nat → Int32} {sv : Nat → Nat → Int32} {nx sz2 : Nat} {ns : Nat → Option Nat} {ss : Nat → Nat → Int32} {bu : Nat → Int32} {ln : Nat} {sum wz : Int32} (hTT : isT cy K ad g st sv nx sz2 ns ss bu ln) (hs1 : ¬ sum < 1) (hs2 : sum ≤ 9999999) (hw : wz ≠ 0 ∧ wz ≠ 1) : zXM l yX4_cordsFor cX4_cordsFor 3 (some .int) ({ frames := 10, cells := 1, slots := 6, locals := 160 } : Room) [.ref (ad 0), .int sum, .int wz] D cy K ad g sz zIAE := by
  refine z_metX (by decide) (Nat.le_of_ble_eq_true rfl) (fun p e s m below meth c ls hsz hl C0 hex hT hP hS => ?_)
  subst hsz
  have hl : lv_has ls 3 [(0, .ref (ad 0)), (1, .int sum), (2, .int wz)] := hl
  have hx := C0.1; have hb := C0.2.1; have hown := C0.2.2.2.1; have hts := C0.2.2.2.2.1
  obtain ⟨sn, tl, rs, x, hX, hH, hHi, hRs, hTr, hSn⟩ := id hTT
  have hR : isR cy K ad g 215 rs.1 rs.2.1 rs.2.2.1 rs.2.2.2.1 rs.2.2.2.2 := hRs
  refine lv_iload_n hx hb dX4_cordsFor_0 rfl (lv_at hl 1 rfl) ?_
  refine lv_iconst (v := 1) hx hb dX4_cordsFor_1 (by decide) ?_
  refine lv_icmp_lt (tgt := 11) hx hb dX4_cordsFor_2 (by decide) (fun c_2 => absurd c_2 hs1) (fun c_2 => ?_)
  refine lv_iload_n hx hb dX4_cordsFor_5 rfl (lv_at hl 1 rfl) ?_
  refine lv_ldc hx hb hown (hts _ q526) dX4_cordsFor_6 ?_
  refine lv_icmp_le (tgt := 21) hx hb dX4_cordsFor_8 (by decide) (fun c_8 => ?_) (fun c_8 => absurd hs2 c_8)
  refine lv_iload_n hx hb dX4_cordsFor_21 rfl (lv_at hl 2 rfl) ?_
  refine lv_if_eq (tgt := 40) hx hb dX4_cordsFor_22 (by decide) (fun c_22 => (hw.1 c_22).elim) (fun c_22 => ?_)
  refine lv_iload_n hx hb dX4_cordsFor_25 rfl (lv_at hl 2 rfl) ?_
  refine lv_iconst (v := 1) hx hb dX4_cordsFor_26 (by decide) ?_
  refine lv_icmp_eq (tgt := 40) hx hb dX4_cordsFor_27 (by decide) (fun c_27 => (hw.2 c_27).elim) (fun c_27 => ?_)
  exact z_throw C0 rfl hfl hex hT hP hS hl.1 (text := "no such way to tell") thf_iae (by decide +kernel) dX4_cordsFor_30 dX4_cordsFor_33 dX4_cordsFor_34 dX4_cordsFor_36 dX4_cordsFor_39 (Nat.le_of_ble_eq_true rfl) (Nat.le_of_ble_eq_true rfl) (Nat.le_of_ble_eq_true rfl) (Nat.le_of_ble_eq_true rfl) (Nat.le_of_ble_eq_true rfl) (Nat.le_of_ble_eq_true rfl) (Nat.le_of_ble_eq_true rfl)
set_option maxHeartbeats 4000000 in
set_option maxRecDepth 100000 in
theorem x_X4_goBack_ise (l : Launch) (hfl : l.stackTraces = false) {D : va_G} {cy : Nat → ClassId} {K : Nat} {ad : Nat → Nat} {g : Nat → va_E} (sz : Nat) {st : Nat → Int32} {sv : Nat → Nat → Int32} {nx sz2 : Nat} {ns : Nat → Option Nat} {ss : Nat → Nat → Int32} {bu : Nat → Int32} {ln : Nat} {jz : Nat} (hTT : isT cy K ad g st sv nx sz2 ns ss bu ln) (hj : jz < 2) (hns : ns jz = none) : zXM l yX4_goBack cX4_goBack 3 (some .int) ({ frames := 10, cells := 1, slots := 6, locals := 160 } : Room) [.ref (ad 0), .int (nI jz)] D cy K ad g sz zISE := by
  refine z_metX (by decide) (Nat.le_of_ble_eq_true rfl) (fun p e s m below meth c ls hsz hl C0 hex hT hP hS => ?_)
  subst hsz
  have hl : lv_has ls 3 [(0, .ref (ad 0)), (1, .int (nI jz))] := hl
  have hx := C0.1; have hb := C0.2.1; have hown := C0.2.2.2.1; have hts := C0.2.2.2.2.1
  obtain ⟨sn, tl, rs, x, hX, hH, hHi, hRs, hTr, hSn⟩ := id hTT
  have hR : isR cy K ad g 215 rs.1 rs.2.1 rs.2.2.1 rs.2.2.2.1 rs.2.2.2.2 := hRs
  refine lv_iload_n hx hb dX4_goBack_0 rfl (lv_at hl 1 rfl) ?_
  refine z_Sv_eq (As := [.int (nI jz)]) (rest := []) C0 hP hS hl.1 (m_X4_checkSlot l _ hj) lk_X4_131 rfl rfl (Nat.le_of_ble_eq_true rfl) ⟨Nat.le_of_ble_eq_true rfl, Nat.le_of_ble_eq_true rfl⟩ rfl rfl ⟨Nat.zero_le _, Nat.zero_le _⟩ dX4_goBack_1 (fun H locs hP hS => ?_)
  refine lv_aload_n hx hb dX4_goBack_4 rfl (lv_at hl 0 rfl) ?_
  refine z_get C0 hP hX.n0 hX.o fd_X4_23 rfl dX4_goBack_5 ?_
  refine lv_iload_n hx hb dX4_goBack_8 rfl (lv_at hl 1 rfl) ?_
  refine z_aald C0 hP hX.n213 hX.a_sn rfl (zIx_nI (by omega) (by decide)) (congrArg va_rf (((hSn.1 jz hj).1).trans (congrArg (Option.map ad) hns))) dX4_goBack_9 ?_
  refine lv_astore_nN (lv' := [(2, .null), (0, .ref (ad 0)), (1, .int (nI jz))]) hx hb dX4_goBack_10 rfl hl (by decide) rfl (fun ls hl => ?_)
  refine lv_aload_nN hx hb dX4_goBack_11 rfl (lv_at hl 0 rfl) ?_
  refine lv_ifnonnullN hx hb dX4_goBack_12 ?_
  exact z_throw C0 rfl hfl hex hT hP hS hl.1 (text := "no snapshot in the slot") thf_ise (by decide +kernel) dX4_goBack_15 dX4_goBack_18 dX4_goBack_19 dX4_goBack_21 dX4_goBack_24 (Nat.le_of_ble_eq_true rfl) (Nat.le_of_ble_eq_true rfl) (Nat.le_of_ble_eq_true rfl) (Nat.le_of_ble_eq_true rfl) (Nat.le_of_ble_eq_true rfl) (Nat.le_of_ble_eq_true rfl) (Nat.le_of_ble_eq_true rfl)
