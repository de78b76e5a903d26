set_option maxHeartbeats 4000000 in
set_option maxRecDepth 100000 in
theorem m_X0_copyFrom (l : Launch) {D : va_G} {cy : Nat → ClassId} {K : Nat} {ad : Nat → Nat} {g : Nat → va_E} (sz : Nat) {n n2 : Nat} {kn lo pa kn2 lo2 pa2 : Nat → Int32} {pc hu sl pc2 hu2 sl2 : Int32} (hC : isC cy K ad g n kn lo pa pc hu sl) (hD : isC cy K ad g n2 kn2 lo2 pa2 pc2 hu2 sl2) (hd : n + 4 ≤ n2 ∨ n2 + 4 ≤ n) : Met l yX0_copyFrom (zs yX0_copyFrom cX0_copyFrom 2 none) ({ frames := 1, cells := 0, slots := 0, locals := 60 } : Room) (va_Pc [.ref (ad n), .ref (ad n2)] (zIn D cy K ad g sz)) (va_Qv (fun g1 => isC cy K ad g1 n (va_cpy kn2 kn 0 0 6) (va_cpy lo2 lo 0 0 6) (va_cpy pa2 pa 0 0 16) pc2 hu2 sl2 ∧ zFr (zRg n (n + 4)) g g1) (zOut D cy K ad sz) (zA K ad sz)) 0 0 (zA K ad sz) := by
  refine z_met (by decide) (Nat.le_of_ble_eq_true rfl) (fun p e s m below meth c ls hsz hl C0 hr hnm hP hS => ?_)
  subst hsz
  have hl : lv_has ls 2 [(0, .ref (ad n)), (1, .ref (ad n2))] := hl
  have hx := C0.1; have hb := C0.2.1; have hown := C0.2.2.2.1; have hts := C0.2.2.2.2.1
  have hFr : zFr (zRg n (n + 4)) g g := zFr.rf
  refine lv_aload_n hx hb dX0_copyFrom_0 rfl (lv_at hl 1 rfl) ?_
  refine z_get C0 hP hD.n0 hD.o fd_X0_9 rfl dX0_copyFrom_1 ?_
  refine lv_iconst (v := 0) hx hb dX0_copyFrom_4 (by decide) ?_
  refine lv_aload_n hx hb dX0_copyFrom_5 rfl (lv_at hl 0 rfl) ?_
  refine z_get C0 hP hC.n0 hC.o fd_X0_9 rfl dX0_copyFrom_6 ?_
  refine lv_iconst (v := 0) hx hb dX0_copyFrom_9 (by decide) ?_
  refine lv_bipush (v := 6) hx hb dX0_copyFrom_10 (by decide) ?_
  refine z_copyC_kn C0 hP hS hl.1 hC hFr (by first | rfl | (dsimp only [zOne, zRg]; omega) | (dsimp only; omega) | omega) hD.n1 hD.a_kn rfl (Nat.le_of_ble_eq_true rfl) q251 (Nat.le_of_ble_eq_true rfl) (Nat.le_of_ble_eq_true rfl) (Nat.le_of_ble_eq_true rfl) dX0_copyFrom_12 (fun g_1 H locs hP hS hC hFr hF1 => ?_)
  have hD := hD.kept hF1 (by first | (dsimp only [zOne, zRg]; omega) | (dsimp only; omega) | omega)
  refine lv_aload_n hx hb dX0_copyFrom_15 rfl (lv_at hl 1 rfl) ?_
  refine z_get C0 hP hD.n0 hD.o fd_X0_15 rfl dX0_copyFrom_16 ?_
  refine lv_iconst (v := 0) hx hb dX0_copyFrom_19 (by decide) ?_
  refine lv_aload_n hx hb dX0_copyFrom_20 rfl (lv_at hl 0 rfl) ?_
  refine z_get C0 hP hC.n0 hC.o fd_X0_15 rfl dX0_copyFrom_21 ?_
  refine lv_iconst (v := 0) hx hb dX0_copyFrom_24 (by decide) ?_
  refine lv_bipush (v := 6) hx hb dX0_copyFrom_25 (by decide) ?_
  refine z_copyC_lo C0 hP hS hl.1 hC hFr (by first | rfl | (dsimp only [zOne, zRg]; omega) | (dsimp only; omega) | omega) hD.n2 hD.a_lo rfl (Nat.le_of_ble_eq_true rfl) q251 (Nat.le_of_ble_eq_true rfl) (Nat.le_of_ble_eq_true rfl) (Nat.le_of_ble_eq_true rfl) dX0_copyFrom_27 (fun g_2 H locs hP hS hC hFr hF1 => ?_)
  have hD := hD.kept hF1 (by first | (dsimp only [zOne, zRg]; omega) | (dsimp only; omega) | omega)
  refine lv_aload_n hx hb dX0_copyFrom_30 rfl (lv_at hl 1 rfl) ?_
  refine z_get C0 hP hD.n0 hD.o fd_X0_18 rfl dX0_copyFrom_31 ?_
  refine lv_iconst (v := 0) hx hb dX0_copyFrom_34 (by decide) ?_
  refine lv_aload_n hx hb dX0_copyFrom_35 rfl (lv_at hl 0 rfl) ?_
  refine z_get C0 hP hC.n0 hC.o fd_X0_18 rfl dX0_copyFrom_36 ?_
  refine lv_iconst (v := 0) hx hb dX0_copyFrom_39 (by decide) ?_
  refine lv_bipush (v := 16) hx hb dX0_copyFrom_40 (by decide) ?_
  refine z_copyC_pa C0 hP hS hl.1 hC hFr (by first | rfl | (dsimp only [zOne, zRg]; omega) | (dsimp only; omega) | omega) hD.n3 hD.a_pa rfl (Nat.le_of_ble_eq_true rfl) q251 (Nat.le_of_ble_eq_true rfl) (Nat.le_of_ble_eq_true rfl) (Nat.le_of_ble_eq_true rfl) dX0_copyFrom_42 (fun g_3 H locs hP hS hC hFr hF1 => ?_)
  have hD := hD.kept hF1 (by first | (dsimp only [zOne, zRg]; omega) | (dsimp only; omega) | omega)
  refine lv_aload_n hx hb dX0_copyFrom_45 rfl (lv_at hl 0 rfl) ?_
  refine lv_aload_n hx hb dX0_copyFrom_46 rfl (lv_at hl 1 rfl) ?_
  refine z_get C0 hP hD.n0 hD.o fd_X0_21 rfl dX0_copyFrom_47 ?_
  refine zp_C_pc C0 hP hS hC hFr (by first | rfl | (dsimp only [zOne, zRg]; omega) | (dsimp only; omega) | omega) fp_X0_21 dX0_copyFrom_50 (fun g_4 H locs hP hS hC hFr hF1 => ?_)
  have hD := hD.kept hF1 (by first | (dsimp only [zOne, zRg]; omega) | (dsimp only; omega) | omega)
  refine lv_aload_n hx hb dX0_copyFrom_53 rfl (lv_at hl 0 rfl) ?_
  refine lv_aload_n hx hb dX0_copyFrom_54 rfl (lv_at hl 1 rfl) ?_
  refine z_get C0 hP hD.n0 hD.o fd_X0_25 rfl dX0_copyFrom_55 ?_
  refine zp_C_hu C0 hP hS hC hFr (by first | rfl | (dsimp only [zOne, zRg]; omega) | (dsimp only; omega) | omega) fp_X0_25 dX0_copyFrom_58 (fun g_5 H locs hP hS hC hFr hF1 => ?_)
  have hD := hD.kept hF1 (by first | (dsimp only [zOne, zRg]; omega) | (dsimp only; omega) | omega)
  refine lv_aload_n hx hb dX0_copyFrom_61 rfl (lv_at hl 0 rfl) ?_
  refine lv_aload_n hx hb dX0_copyFrom_62 rfl (lv_at hl 1 rfl) ?_
  refine z_get C0 hP hD.n0 hD.o fd_X0_28 rfl dX0_copyFrom_63 ?_
  refine zp_C_sl C0 hP hS hC hFr (by first | rfl | (dsimp only [zOne, zRg]; omega) | (dsimp only; omega) | omega) fp_X0_28 dX0_copyFrom_66 (fun g_6 H locs hP hS hC hFr hF1 => ?_)
  have hD := hD.kept hF1 (by first | (dsimp only [zOne, zRg]; omega) | (dsimp only; omega) | omega)
  exact z_vret C0 hP hS hr (⟨hC, hFr⟩) dX0_copyFrom_69
set_option maxHeartbeats 4000000 in
set_option maxRecDepth 100000 in
theorem m_X1_countTied (l : Launch) {D : va_G} {cy : Nat → ClassId} {K : Nat} {ad : Nat → Nat} {g : Nat → va_E} (sz : Nat) {n cz : Nat} {rw : Nat → Option Nat} {ro kt lt sl go re : Int32} {kn lo pa : Nat → Int32} {hu s2 : Int32} {pc kb lb : Int32} (hG : isG cy K ad g n rw ro kt lt sl go re) (hC : isC cy K ad g cz kn lo pa pc hu s2) (hd : n + 2 ≤ cz) : Met l yX1_countTied (zs yX1_countTied cX1_countTied 5 (some .int)) ({ frames := 2, cells := 0, slots := 0, locals := 43 } : Room) (va_Pc [.ref (ad n), .ref (ad cz), .int kb, .int lb] (zIn D cy K ad g sz)) (va_Qi (fun r g1 => r = sumN lo 6 - lb ∧ isG cy K ad g1 n rw ro (kt + (sumN kn 6 - kb)) (lt + (sumN lo 6 - lb)) sl go re ∧ zFr (zOne n) g g1) (zOut D cy K ad sz) (zA K ad sz)) 0 0 (zA K ad sz) := by
  refine z_met (by decide) (Nat.le_of_ble_eq_true rfl) (fun p e s m below meth c ls hsz hl C0 hr hnm hP hS => ?_)
  subst hsz
  have hl : lv_has ls 5 [(0, .ref (ad n)), (1, .ref (ad cz)), (2, .int kb), (3, .int lb)] := hl
  have hx := C0.1; have hb := C0.2.1; have hown := C0.2.2.2.1; have hts := C0.2.2.2.2.1
  have hFr : zFr (zOne n) g g := zFr.rf
  refine lv_aload_n hx hb dX1_countTied_0 rfl (lv_at hl 1 rfl) ?_
  refine z_Vi_eq (As := []) (rest := []) C0 hP hS hl.1 (m_X0_allLoops l _ hC) lk_X1_49 hC.n0 hC.o rfl rfl (Nat.le_of_ble_eq_true rfl) ⟨Nat.le_of_ble_eq_true rfl, Nat.le_of_ble_eq_true rfl⟩ rfl rfl ⟨Nat.zero_le _, Nat.zero_le _⟩ dX1_countTied_1 (fun H locs hP hS => ?_)
  refine lv_iload_n hx hb dX1_countTied_4 rfl (lv_at hl 3 rfl) ?_
  refine lv_isub hx hb dX1_countTied_5 ?_
  refine lv_istore (lv' := [(4, .int ((sumN lo 6) - lb)), (0, .ref (ad n)), (1, .ref (ad cz)), (2, .int kb), (3, .int lb)]) hx hb dX1_countTied_6 hl (by decide) rfl (fun ls hl => ?_)
  refine lv_aload_n hx hb dX1_countTied_8 rfl (lv_at hl 1 rfl) ?_
  refine lv_dup hx hb dX1_countTied_9 rfl ?_
  refine z_get C0 hP hG.n0 hG.o fd_X1_21 rfl dX1_countTied_10 ?_
  refine lv_aload_n hx hb dX1_countTied_13 rfl (lv_at hl 2 rfl) ?_
  refine z_Vi_eq (As := []) (rest := [.int kt, .ref (ad n)]) C0 hP hS hl.1 (m_X0_allKnots l _ hC) lk_X1_45 hC.n0 hC.o rfl rfl (Nat.le_of_ble_eq_true rfl) ⟨Nat.le_of_ble_eq_true rfl, Nat.le_of_ble_eq_true rfl⟩ rfl rfl ⟨Nat.zero_le _, Nat.zero_le _⟩ dX1_countTied_14 (fun H locs hP hS => ?_)
  refine lv_iload_n hx hb dX1_countTied_17 rfl (lv_at hl 3 rfl) ?_
  refine lv_isub hx hb dX1_countTied_18 ?_
  refine lv_iadd hx hb dX1_countTied_19 ?_
  refine zp_G_kt C0 hP hS hG hFr (by first | rfl | (dsimp only [zOne, zRg]; omega) | (dsimp only; omega) | omega) fp_X1_21 dX1_countTied_20 (fun g_1 H locs hP hS hG hFr hF1 => ?_)
  have hC := hC.kept hF1 (by first | (dsimp only [zOne, zRg]; omega) | (dsimp only; omega) | omega)
  refine lv_aload_n hx hb dX1_countTied_23 rfl (lv_at hl 1 rfl) ?_
  refine lv_dup hx hb dX1_countTied_24 rfl ?_
  refine z_get C0 hP hG.n0 hG.o fd_X1_24 rfl dX1_countTied_25 ?_
  refine lv_iload hx hb dX1_countTied_28 (lv_at hl 0 rfl) ?_
  refine lv_iadd hx hb dX1_countTied_30 ?_
  refine zp_G_lt C0 hP hS hG hFr (by first | rfl | (dsimp only [zOne, zRg]; omega) | (dsimp only; omega) | omega) fp_X1_24 dX1_countTied_31 (fun g_2 H locs hP hS hG hFr hF1 => ?_)
  have hC := hC.kept hF1 (by first | (dsimp only [zOne, zRg]; omega) | (dsimp only; omega) | omega)
  refine lv_iload hx hb dX1_countTied_34 (lv_at hl 0 rfl) ?_
  exact z_iret C0 hP hS hr (⟨rfl, hG, hFr⟩) dX1_countTied_36
set_option maxHeartbeats 4000000 in
set_option maxRecDepth 100000 in
theorem m_X1_tiePart (l : Launch) {D : va_G} {cy : Nat → ClassId} {K : Nat} {ad : Nat → Nat} {g : Nat → va_E} (sz : Nat) {n cz : Nat} {rw : Nat → Option Nat} {ro kt lt sl go re : Int32} {kn lo pa : Nat → Int32} {hu s2 : Int32} {mm : Nat} {num : Int32} (hG : isG cy K ad g n rw ro kt lt sl go re) (hC : isC cy K ad g cz kn lo pa (nI mm) hu s2) (hd : n + 2 ≤ cz) (hm : mm ≤ 16) : Met l yX1_tiePart (zs yX1_tiePart cX1_tiePart 6 (some .int)) ({ frames := 4, cells := 0, slots := 0, locals := 93 } : Room) (va_Pc [.ref (ad n), .ref (ad cz), .int num] (zIn D cy K ad g sz)) (va_Qi (fun r g1 => (¬ rop kn lo mm num ro = 0 ∧ r = rop kn lo mm num ro ∧ isG cy K ad g1 n rw ro kt lt sl go (re + 1) ∧ isC cy K ad g1 cz kn lo pa (nI mm) hu s2 ∧ zFr (fun z9 => z9 = n ∨ (cz ≤ z9 ∧ z9 < cz + 4)) g g1) ∨ (rop kn lo mm num ro = 0 ∧ r = 10 + (sumN (tL kn lo num 6) 6 - sumN lo 6) ∧ isG cy K ad g1 n rw ro (kt + (sumN (tK kn lo num 6) 6 - sumN kn 6)) (lt + (sumN (tL kn lo num 6) 6 - sumN lo 6)) sl go re ∧ isC cy K ad g1 cz (tK kn lo num 6) (tL kn lo num 6) (upd pa mm num) (nI (mm + 1)) hu s2 ∧ zFr (fun z9 => z9 = n ∨ (cz ≤ z9 ∧ z9 < cz + 4)) g g1)) (zOut D cy K ad sz) (zA K ad sz)) 0 0 (zA K ad sz) := by
  refine z_met (by decide) (Nat.le_of_ble_eq_true rfl) (fun p e s m below meth c ls hsz hl C0 hr hnm hP hS => ?_)
  subst hsz
  have hl : lv_has ls 6 [(0, .ref (ad n)), (1, .ref (ad cz)), (2, .int num)] := hl
  have hx := C0.1; have hb := C0.2.1; have hown := C0.2.2.2.1; have hts := C0.2.2.2.2.1
  have hFr : zFr (fun z9 => z9 = n ∨ (cz ≤ z9 ∧ z9 < cz + 4)) g g := zFr.rf
  refine lv_aload_n hx hb dX1_tiePart_0 rfl (lv_at hl 1 rfl) ?_
  refine lv_iload_n hx hb dX1_tiePart_1 rfl (lv_at hl 2 rfl) ?_
  refine lv_aload_n hx hb dX1_tiePart_2 rfl (lv_at hl 0 rfl) ?_
  refine z_get C0 hP hG.n0 hG.o fd_X1_17 rfl dX1_tiePart_3 ?_
  refine z_Vi_eq (As := [.int num, .int ro]) (rest := []) C0 hP hS hl.1 (m_X0_refusalOfPart l _ hC hm) lk_X1_41 hC.n0 hC.o rfl rfl (Nat.le_of_ble_eq_true rfl) ⟨Nat.le_of_ble_eq_true rfl, Nat.le_of_ble_eq_true rfl⟩ rfl rfl ⟨Nat.zero_le _, Nat.zero_le _⟩ dX1_tiePart_6 (fun H locs hP hS => ?_)
  refine lv_istore_n (lv' := [(3, .int (rop kn lo mm num ro)), (0, .ref (ad n)), (1, .ref (ad cz)), (2, .int num)]) hx hb dX1_tiePart_9 rfl hl (by decide) rfl (fun ls hl => ?_)
  refine lv_iload_n hx hb dX1_tiePart_10 rfl (lv_at hl 0 rfl) ?_
  refine lv_if_eq (tgt := 26) hx hb dX1_tiePart_11 (by decide) (fun c_11 => ?_) (fun c_11 => ?_)
  · refine lv_aload_n hx hb dX1_tiePart_26 rfl (lv_at hl 2 rfl) ?_
    refine z_Vi_eq (As := []) (rest := []) C0 hP hS hl.1 (m_X0_allKnots l _ hC) lk_X1_45 hC.n0 hC.o rfl rfl (Nat.le_of_ble_eq_true rfl) ⟨Nat.le_of_ble_eq_true rfl, Nat.le_of_ble_eq_true rfl⟩ rfl rfl ⟨Nat.zero_le _, Nat.zero_le _⟩ dX1_tiePart_27 (fun H locs hP hS => ?_)
    refine lv_istore (lv' := [(4, .int (sumN kn 6)), (3, .int (rop kn lo mm num ro)), (0, .ref (ad n)), (1, .ref (ad cz)), (2, .int num)]) hx hb dX1_tiePart_30 hl (by decide) rfl (fun ls hl => ?_)
    refine lv_aload_n hx hb dX1_tiePart_32 rfl (lv_at hl 3 rfl) ?_
    refine z_Vi_eq (As := []) (rest := []) C0 hP hS hl.1 (m_X0_allLoops l _ hC) lk_X1_49 hC.n0 hC.o rfl rfl (Nat.le_of_ble_eq_true rfl) ⟨Nat.le_of_ble_eq_true rfl, Nat.le_of_ble_eq_true rfl⟩ rfl rfl ⟨Nat.zero_le _, Nat.zero_le _⟩ dX1_tiePart_33 (fun H locs hP hS => ?_)
    refine lv_istore (lv' := [(5, .int (sumN lo 6)), (4, .int (sumN kn 6)), (3, .int (rop kn lo mm num ro)), (0, .ref (ad n)), (1, .ref (ad cz)), (2, .int num)]) hx hb dX1_tiePart_36 hl (by decide) rfl (fun ls hl => ?_)
    refine lv_aload_n hx hb dX1_tiePart_38 rfl (lv_at hl 4 rfl) ?_
    refine lv_iload_n hx hb dX1_tiePart_39 rfl (lv_at hl 5 rfl) ?_
    refine z_Vv_mo (As := [.int num]) (rest := []) C0 hP hS hl.1 (m_X0_tieAsPart l _ hC (rop_lt c_11)) lk_X1_52 hC.n0 hC.o rfl rfl (Nat.le_of_ble_eq_true rfl) ⟨Nat.le_of_ble_eq_true rfl, Nat.le_of_ble_eq_true rfl⟩ rfl rfl ⟨Nat.zero_le _, Nat.zero_le _⟩ dX1_tiePart_40 (fun g_1 H locs hP hS hp => ?_)
    obtain ⟨hC, hF1⟩ := hp
    have hG := hG.kept hF1 (by first | (dsimp only [zOne, zRg]; omega) | (dsimp only; omega) | omega)
    have hFr := hFr.tr (hF1.mono (by intro x9 hx9; first | (dsimp only [zOne, zRg] at hx9 ⊢; omega) | (dsimp only at hx9 ⊢; omega) | omega))
    refine lv_bipush (v := 10) hx hb dX1_tiePart_43 (by decide) ?_
    refine lv_aload_n hx hb dX1_tiePart_45 rfl (lv_at hl 3 rfl) ?_
    refine lv_aload_n hx hb dX1_tiePart_46 rfl (lv_at hl 4 rfl) ?_
    refine lv_iload hx hb dX1_tiePart_47 (lv_at hl 1 rfl) ?_
    refine lv_iload hx hb dX1_tiePart_49 (lv_at hl 0 rfl) ?_
    refine z_Vi_mo (As := [.ref (ad cz), .int (sumN kn 6), .int (sumN lo 6)]) (rest := [.int 10]) C0 hP hS hl.1 (m_X1_countTied l _ hG hC hd) lk_X1_56 hG.n0 hG.o rfl rfl (Nat.le_of_ble_eq_true rfl) ⟨Nat.le_of_ble_eq_true rfl, Nat.le_of_ble_eq_true rfl⟩ rfl rfl ⟨Nat.zero_le _, Nat.zero_le _⟩ dX1_tiePart_51 (fun r_51 g_2 H locs hP hS hp => ?_)
    obtain ⟨hr_51, hG, hF1⟩ := hp
    subst hr_51
    have hC := hC.kept hF1 (by first | (dsimp only [zOne, zRg]; omega) | (dsimp only; omega) | omega)
    have hFr := hFr.tr (hF1.mono (by intro x9 hx9; first | (dsimp only [zOne, zRg] at hx9 ⊢; omega) | (dsimp only at hx9 ⊢; omega) | omega))
    refine lv_iadd hx hb dX1_tiePart_54 ?_
    exact z_iret C0 hP hS hr (Or.inr ⟨c_11, rfl, hG, hC, hFr⟩) dX1_tiePart_55
  · refine lv_aload_n hx hb dX1_tiePart_14 rfl (lv_at hl 1 rfl) ?_
    refine lv_dup hx hb dX1_tiePart_15 rfl ?_
    refine z_get C0 hP hG.n0 hG.o fd_X1_33 rfl dX1_tiePart_16 ?_
    refine lv_iconst (v := 1) hx hb dX1_tiePart_19 (by decide) ?_
    refine lv_iadd hx hb dX1_tiePart_20 ?_
    refine zp_G_re C0 hP hS hG hFr (by first | rfl | (dsimp only [zOne, zRg]; omega) | (dsimp only; omega) | omega) fp_X1_33 dX1_tiePart_21 (fun g_3 H locs hP hS hG hFr hF1 => ?_)
    have hC := hC.kept hF1 (by first | (dsimp only [zOne, zRg]; omega) | (dsimp only; omega) | omega)
    refine lv_iload_n hx hb dX1_tiePart_24 rfl (lv_at hl 0 rfl) ?_
    exact z_iret C0 hP hS hr (Or.inl ⟨c_11, rfl, hG, hC, hFr⟩) dX1_tiePart_25
set_option maxHeartbeats 4000000 in
set_option maxRecDepth 100000 in
theorem m_X1_tieLack (l : Launch) {D : va_G} {cy : Nat → ClassId} {K : Nat} {ad : Nat → Nat} {g : Nat → va_E} (sz : Nat) {n cz : Nat} {rw : Nat → Option Nat} {ro kt lt sl go re : Int32} {kn lo pa : Nat → Int32} {hu s2 : Int32} {mm : Nat} (hG : isG cy K ad g n rw ro kt lt sl go re) (hC : isC cy K ad g cz kn lo pa (nI mm) hu s2) (hd : n + 2 ≤ cz) (hm : mm ≤ 16) : Met l yX1_tieLack (zs yX1_tieLack cX1_tieLack 6 (some .int)) ({ frames := 3, cells := 0, slots := 0, locals := 71 } : Room) (va_Pc [.ref (ad n), .ref (ad cz)] (zIn D cy K ad g sz)) (va_Qi (fun r g1 => (sumN pa mm - tld kn lo 6 = 0 ∧ r = 0 ∧ g1 = g) ∨ (¬ sumN pa mm - tld kn lo 6 = 0 ∧ ¬ refuse kn lo (sumN pa mm - tld kn lo 6) ro = 0 ∧ r = - refuse kn lo (sumN pa mm - tld kn lo 6) ro ∧ isG cy K ad g1 n rw ro kt lt sl go (re + 1) ∧ isC cy K ad g1 cz kn lo pa (nI mm) hu s2 ∧ zFr (fun z9 => z9 = n ∨ (cz ≤ z9 ∧ z9 < cz + 4)) g g1) ∨ (¬ sumN pa mm - tld kn lo 6 = 0 ∧ refuse kn lo (sumN pa mm - tld kn lo 6) ro = 0 ∧ r = sumN pa mm - tld kn lo 6 ∧ isG cy K ad g1 n rw ro (kt + (sumN (tK kn lo (sumN pa mm - tld kn lo 6) 6) 6 - sumN kn 6)) (lt + (sumN (tL kn lo (sumN pa mm - tld kn lo 6) 6) 6 - sumN lo 6)) sl go re ∧ isC cy K ad g1 cz (tK kn lo (sumN pa mm - tld kn lo 6) 6) (tL kn lo (sumN pa mm - tld kn lo 6) 6) pa (nI mm) hu s2 ∧ zFr (fun z9 => z9 = n ∨ (cz ≤ z9 ∧ z9 < cz + 4)) g g1)) (zOut D cy K ad sz) (zA K ad sz)) 0 0 (zA K ad sz) := by
  refine z_met (by decide) (Nat.le_of_ble_eq_true rfl) (fun p e s m below meth c ls hsz hl C0 hr hnm hP hS => ?_)
  subst hsz
  have hl : lv_has ls 6 [(0, .ref (ad n)), (1, .ref (ad cz))] := hl
  have hx := C0.1; have hb := C0.2.1; have hown := C0.2.2.2.1; have hts := C0.2.2.2.2.1
  have hFr : zFr (fun z9 => z9 = n ∨ (cz ≤ z9 ∧ z9 < cz + 4)) g g := zFr.rf
  refine lv_aload_n hx hb dX1_tieLack_0 rfl (lv_at hl 1 rfl) ?_
  refine z_Vi_eq (As := []) (rest := []) C0 hP hS hl.1 (m_X0_lack l _ hC hm) lk_X1_67 hC.n0 hC.o rfl rfl (Nat.le_of_ble_eq_true rfl) ⟨Nat.le_of_ble_eq_true rfl, Nat.le_of_ble_eq_true rfl⟩ rfl rfl ⟨Nat.zero_le _, Nat.zero_le _⟩ dX1_tieLack_1 (fun H locs hP hS => ?_)
  refine lv_istore_n (lv' := [(2, .int (sumN pa mm - tld kn lo 6)), (0, .ref (ad n)), (1, .ref (ad cz))]) hx hb dX1_tieLack_4 rfl hl (by decide) rfl (fun ls hl => ?_)
  refine lv_iload_n hx hb dX1_tieLack_5 rfl (lv_at hl 0 rfl) ?_
  refine lv_if_ne (tgt := 11) hx hb dX1_tieLack_6 (by decide) (fun c_6 => ?_) (fun c_6 => ?_)
  · refine lv_aload_n hx hb dX1_tieLack_11 rfl (lv_at hl 2 rfl) ?_
    refine lv_iload_n hx hb dX1_tieLack_12 rfl (lv_at hl 0 rfl) ?_
    refine lv_aload_n hx hb dX1_tieLack_13 rfl (lv_at hl 1 rfl) ?_
    refine z_get C0 hP hG.n0 hG.o fd_X1_17 rfl dX1_tieLack_14 ?_
    refine z_Vi_eq (As := [.int (sumN pa mm - tld kn lo 6), .int ro]) (rest := []) C0 hP hS hl.1 (m_X0_refusal l _ hC) lk_X1_70 hC.n0 hC.o rfl rfl (Nat.le_of_ble_eq_true rfl) ⟨Nat.le_of_ble_eq_true rfl, Nat.le_of_ble_eq_true rfl⟩ rfl rfl ⟨Nat.zero_le _, Nat.zero_le _⟩ dX1_tieLack_17 (fun H locs hP hS => ?_)
    refine lv_istore_n (lv' := [(3, .int (refuse kn lo (sumN pa mm - tld kn lo 6) ro)), (2, .int (sumN pa mm - tld kn lo 6)), (0, .ref (ad n)), (1, .ref (ad cz))]) hx hb dX1_tieLack_20 rfl hl (by decide) rfl (fun ls hl => ?_)
    refine lv_iload_n hx hb dX1_tieLack_21 rfl (lv_at hl 0 rfl) ?_
    refine lv_if_eq (tgt := 38) hx hb dX1_tieLack_22 (by decide) (fun c_22 => ?_) (fun c_22 => ?_)
    · refine lv_aload_n hx hb dX1_tieLack_38 rfl (lv_at hl 3 rfl) ?_
      refine z_Vi_eq (As := []) (rest := []) C0 hP hS hl.1 (m_X0_allKnots l _ hC) lk_X1_45 hC.n0 hC.o rfl rfl (Nat.le_of_ble_eq_true rfl) ⟨Nat.le_of_ble_eq_true rfl, Nat.le_of_ble_eq_true rfl⟩ rfl rfl ⟨Nat.zero_le _, Nat.zero_le _⟩ dX1_tieLack_39 (fun H locs hP hS => ?_)
      refine lv_istore (lv' := [(4, .int (sumN kn 6)), (3, .int (refuse kn lo (sumN pa mm - tld kn lo 6) ro)), (2, .int (sumN pa mm - tld kn lo 6)), (0, .ref (ad n)), (1, .ref (ad cz))]) hx hb dX1_tieLack_42 hl (by decide) rfl (fun ls hl => ?_)
      refine lv_aload_n hx hb dX1_tieLack_44 rfl (lv_at hl 4 rfl) ?_
      refine z_Vi_eq (As := []) (rest := []) C0 hP hS hl.1 (m_X0_allLoops l _ hC) lk_X1_49 hC.n0 hC.o rfl rfl (Nat.le_of_ble_eq_true rfl) ⟨Nat.le_of_ble_eq_true rfl, Nat.le_of_ble_eq_true rfl⟩ rfl rfl ⟨Nat.zero_le _, Nat.zero_le _⟩ dX1_tieLack_45 (fun H locs hP hS => ?_)
      refine lv_istore (lv' := [(5, .int (sumN lo 6)), (4, .int (sumN kn 6)), (3, .int (refuse kn lo (sumN pa mm - tld kn lo 6) ro)), (2, .int (sumN pa mm - tld kn lo 6)), (0, .ref (ad n)), (1, .ref (ad cz))]) hx hb dX1_tieLack_48 hl (by decide) rfl (fun ls hl => ?_)
      refine lv_aload_n hx hb dX1_tieLack_50 rfl (lv_at hl 5 rfl) ?_
      refine lv_iload_n hx hb dX1_tieLack_51 rfl (lv_at hl 3 rfl) ?_
      refine z_Vv_mo (As := [.int (sumN pa mm - tld kn lo 6)]) (rest := []) C0 hP hS hl.1 (m_X0_tieKnots l _ hC) lk_X1_73 hC.n0 hC.o rfl rfl (Nat.le_of_ble_eq_true rfl) ⟨Nat.le_of_ble_eq_true rfl, Nat.le_of_ble_eq_true rfl⟩ rfl rfl ⟨Nat.zero_le _, Nat.zero_le _⟩ dX1_tieLack_52 (fun g_1 H locs hP hS hp => ?_)
      obtain ⟨hC, hF1⟩ := hp
      have hG := hG.kept hF1 (by first | (dsimp only [zOne, zRg]; omega) | (dsimp only; omega) | omega)
      have hFr := hFr.tr (hF1.mono (by intro x9 hx9; first | (dsimp only [zOne, zRg] at hx9 ⊢; omega) | (dsimp only at hx9 ⊢; omega) | omega))
      refine lv_aload_n hx hb dX1_tieLack_55 rfl (lv_at hl 4 rfl) ?_
      refine lv_aload_n hx hb dX1_tieLack_56 rfl (lv_at hl 5 rfl) ?_
      refine lv_iload hx hb dX1_tieLack_57 (lv_at hl 1 rfl) ?_
      refine lv_iload hx hb dX1_tieLack_59 (lv_at hl 0 rfl) ?_
      refine z_Vi_mo (As := [.ref (ad cz), .int (sumN kn 6), .int (sumN lo 6)]) (rest := []) C0 hP hS hl.1 (m_X1_countTied l _ hG hC hd) lk_X1_56 hG.n0 hG.o rfl rfl (Nat.le_of_ble_eq_true rfl) ⟨Nat.le_of_ble_eq_true rfl, Nat.le_of_ble_eq_true rfl⟩ rfl rfl ⟨Nat.zero_le _, Nat.zero_le _⟩ dX1_tieLack_61 (fun r_61 g_2 H locs hP hS hp => ?_)
      obtain ⟨hr_61, hG, hF1⟩ := hp
      subst hr_61
      have hC := hC.kept hF1 (by first | (dsimp only [zOne, zRg]; omega) | (dsimp only; omega) | omega)
      have hFr := hFr.tr (hF1.mono (by intro x9 hx9; first | (dsimp only [zOne, zRg] at hx9 ⊢; omega) | (dsimp only at hx9 ⊢; omega) | omega))
      refine lv_pop hx hb dX1_tieLack_64 rfl ?_
      refine lv_iload_n hx hb dX1_tieLack_65 rfl (lv_at hl 3 rfl) ?_
      exact z_iret C0 hP hS hr (Or.inr (Or.inr ⟨c_6, c_22, rfl, hG, hC, hFr⟩)) dX1_tieLack_66
    · refine lv_aload_n hx hb dX1_tieLack_25 rfl (lv_at hl 2 rfl) ?_
      refine lv_dup hx hb dX1_tieLack_26 rfl ?_
      refine z_get C0 hP hG.n0 hG.o fd_X1_33 rfl dX1_tieLack_27 ?_
      refine lv_iconst (v := 1) hx hb dX1_tieLack_30 (by decide) ?_
      refine lv_iadd hx hb dX1_tieLack_31 ?_
      refine zp_G_re C0 hP hS hG hFr (by first | rfl | (dsimp only [zOne, zRg]; omega) | (dsimp only; omega) | omega) fp_X1_33 dX1_tieLack_32 (fun g_3 H locs hP hS hG hFr hF1 => ?_)
      have hC := hC.kept hF1 (by first | (dsimp only [zOne, zRg]; omega) | (dsimp only; omega) | omega)
      refine lv_iload_n hx hb dX1_tieLack_35 rfl (lv_at hl 0 rfl) ?_
      refine lv_ineg hx hb dX1_tieLack_36 ?_
      exact z_iret C0 hP hS hr (Or.inr (Or.inl ⟨c_6, c_22, rfl, hG, hC, hFr⟩)) dX1_tieLack_37
  · refine lv_iconst (v := 0) hx hb dX1_tieLack_9 (by decide) ?_
    exact z_iret C0 hP hS hr (Or.inl ⟨c_6, rfl, rfl⟩) dX1_tieLack_10
set_option maxHeartbeats 4000000 in
set_option maxRecDepth 100000 in
theorem m_X1_loosen (l : Launch) {D : va_G} {cy : Nat → ClassId} {K : Nat} {ad : Nat → Nat} {g : Nat → va_E} (sz : Nat) {n cz : Nat} {rw : Nat → Option Nat} {ro kt lt sl go re : Int32} {kn lo pa : Nat → Int32} {hu s2 : Int32} {pc : Int32} {jz : Nat} (hG : isG cy K ad g n rw ro kt lt sl go re) (hC : isC cy K ad g cz kn lo pa pc hu s2) (hd : n + 2 ≤ cz) (hj : jz < 6) : Met l yX1_loosen (zs yX1_loosen cX1_loosen 3 (some .int)) ({ frames := 1, cells := 0, slots := 0, locals := 21 } : Room) (va_Pc [.ref (ad n), .ref (ad cz), .int (nI jz)] (zIn D cy K ad g sz)) (va_Qi (fun r g1 => (opn kn lo jz = 0 ∧ r = -1 ∧ isG cy K ad g1 n rw ro kt lt sl go (re + 1) ∧ isC cy K ad g1 cz kn lo pa pc hu s2 ∧ zFr (fun z9 => z9 = n ∨ (cz ≤ z9 ∧ z9 < cz + 4)) g g1) ∨ (¬ opn kn lo jz = 0 ∧ r = opn (upd kn jz (kn jz - 1)) lo jz ∧ isG cy K ad g1 n rw ro kt lt (sl + 1) go re ∧ isC cy K ad g1 cz (upd kn jz (kn jz - 1)) lo pa pc hu (s2 + 1) ∧ zFr (fun z9 => z9 = n ∨ (cz ≤ z9 ∧ z9 < cz + 4)) g g1)) (zOut D cy K ad sz) (zA K ad sz)) 0 0 (zA K ad sz) := by
  refine z_met (by decide) (Nat.le_of_ble_eq_true rfl) (fun p e s m below meth c ls hsz hl C0 hr hnm hP hS => ?_)
  subst hsz
  have hl : lv_has ls 3 [(0, .ref (ad n)), (1, .ref (ad cz)), (2, .int (nI jz))] := hl
  have hx := C0.1; have hb := C0.2.1; have hown := C0.2.2.2.1; have hts := C0.2.2.2.2.1
  have hFr : zFr (fun z9 => z9 = n ∨ (cz ≤ z9 ∧ z9 < cz + 4)) g g := zFr.rf
  refine lv_aload_n hx hb dX1_loosen_0 rfl (lv_at hl 1 rfl) ?_
  refine lv_iload_n hx hb dX1_loosen_1 rfl (lv_at hl 2 rfl) ?_
  refine z_Vi_eq (As := [.int (nI jz)]) (rest := []) C0 hP hS hl.1 (m_X0_open l _ hC hj) lk_X1_76 hC.n0 hC.o rfl rfl (Nat.le_of_ble_eq_true rfl) ⟨Nat.le_of_ble_eq_true rfl, Nat.le_of_ble_eq_true rfl⟩ rfl rfl ⟨Nat.zero_le _, Nat.zero_le _⟩ dX1_loosen_2 (fun H locs hP hS => ?_)
  refine lv_if_ne (tgt := 20) hx hb dX1_loosen_5 (by decide) (fun c_5 => ?_) (fun c_5 => ?_)
  · refine lv_aload_n hx hb dX1_loosen_20 rfl (lv_at hl 1 rfl) ?_
    refine z_get C0 hP hC.n0 hC.o fd_X1_80 rfl dX1_loosen_21 ?_
    refine lv_iload_n hx hb dX1_loosen_24 rfl (lv_at hl 2 rfl) ?_
    refine lv_dup2_11 hx hb dX1_loosen_25 rfl rfl ?_
    refine z_iald C0 hP hC.n1 hC.a_kn (zIx_nI (by omega) (by decide)) dX1_loosen_26 ?_
    refine lv_iconst (v := 1) hx hb dX1_loosen_27 (by decide) ?_
    refine lv_isub hx hb dX1_loosen_28 ?_
    refine zp_C_kn C0 hP hS hC hFr (by first | rfl | (dsimp only [zOne, zRg]; omega) | (dsimp only; omega) | omega) (zIx_nI (by omega) (by decide)) dX1_loosen_29 (fun g_1 H locs hP hS hC hFr hF1 => ?_)
    have hG := hG.kept hF1 (by first | (dsimp only [zOne, zRg]; omega) | (dsimp only; omega) | omega)
    refine lv_aload_n hx hb dX1_loosen_30 rfl (lv_at hl 1 rfl) ?_
    refine lv_dup hx hb dX1_loosen_31 rfl ?_
    refine z_get C0 hP hC.n0 hC.o fd_X1_84 rfl dX1_loosen_32 ?_
    refine lv_iconst (v := 1) hx hb dX1_loosen_35 (by decide) ?_
    refine lv_iadd hx hb dX1_loosen_36 ?_
    refine zp_C_sl C0 hP hS hC hFr (by first | rfl | (dsimp only [zOne, zRg]; omega) | (dsimp only; omega) | omega) fp_X1_84 dX1_loosen_37 (fun g_2 H locs hP hS hC hFr hF1 => ?_)
    have hG := hG.kept hF1 (by first | (dsimp only [zOne, zRg]; omega) | (dsimp only; omega) | omega)
    refine lv_aload_n hx hb dX1_loosen_40 rfl (lv_at hl 0 rfl) ?_
    refine lv_dup hx hb dX1_loosen_41 rfl ?_
    refine z_get C0 hP hG.n0 hG.o fd_X1_27 rfl dX1_loosen_42 ?_
    refine lv_iconst (v := 1) hx hb dX1_loosen_45 (by decide) ?_
    refine lv_iadd hx hb dX1_loosen_46 ?_
    refine zp_G_sl C0 hP hS hG hFr (by first | rfl | (dsimp only [zOne, zRg]; omega) | (dsimp only; omega) | omega) fp_X1_27 dX1_loosen_47 (fun g_3 H locs hP hS hG hFr hF1 => ?_)
    have hC := hC.kept hF1 (by first | (dsimp only [zOne, zRg]; omega) | (dsimp only; omega) | omega)
    refine lv_aload_n hx hb dX1_loosen_50 rfl (lv_at hl 1 rfl) ?_
    refine lv_iload_n hx hb dX1_loosen_51 rfl (lv_at hl 2 rfl) ?_
    refine z_Vi_eq (As := [.int (nI jz)]) (rest := []) C0 hP hS hl.1 (m_X0_open l _ hC hj) lk_X1_76 hC.n0 hC.o rfl rfl (Nat.le_of_ble_eq_true rfl) ⟨Nat.le_of_ble_eq_true rfl, Nat.le_of_ble_eq_true rfl⟩ rfl rfl ⟨Nat.zero_le _, Nat.zero_le _⟩ dX1_loosen_52 (fun H locs hP hS => ?_)
    exact z_iret C0 hP hS hr (Or.inr ⟨c_5, rfl, hG, hC, hFr⟩) dX1_loosen_55
  · refine lv_aload_n hx hb dX1_loosen_8 rfl (lv_at hl 0 rfl) ?_
    refine lv_dup hx hb dX1_loosen_9 rfl ?_
    refine z_get C0 hP hG.n0 hG.o fd_X1_33 rfl dX1_loosen_10 ?_
    refine lv_iconst (v := 1) hx hb dX1_loosen_13 (by decide) ?_
    refine lv_iadd hx hb dX1_loosen_14 ?_
    refine zp_G_re C0 hP hS hG hFr (by first | rfl | (dsimp only [zOne, zRg]; omega) | (dsimp only; omega) | omega) fp_X1_33 dX1_loosen_15 (fun g_4 H locs hP hS hG hFr hF1 => ?_)
    have hC := hC.kept hF1 (by first | (dsimp only [zOne, zRg]; omega) | (dsimp only; omega) | omega)
    refine lv_iconst (v := (-1)) hx hb dX1_loosen_18 (by decide) ?_
    exact z_iret C0 hP hS hr (Or.inl ⟨c_5, rfl, hG, hC, hFr⟩) dX1_loosen_19
set_option maxHeartbeats 4000000 in
set_option maxRecDepth 100000 in
theorem m_X1_replace (l : Launch) {D : va_G} {cy : Nat → ClassId} {K : Nat} {ad : Nat → Nat} {g : Nat → va_E} (sz : Nat) {n cz : Nat} {rw : Nat → Option Nat} {ro kt lt sl go re : Int32} {kn lo pa : Nat → Int32} {hu s2 : Int32} {pc : Int32} (hG : isG cy K ad g n rw ro kt lt sl go re) (hC : isC cy K ad g cz kn lo pa pc hu s2) (hd : n + 2 ≤ cz) : Met l yX1_replace (zs yX1_replace cX1_replace 3 (some .int)) ({ frames := 3, cells := 0, slots := 0, locals := 63 } : Room) (va_Pc [.ref (ad n), .ref (ad cz)] (zIn D cy K ad g sz)) (va_Qi (fun r g1 => r = tld kn lo 6 ∧ isG cy K ad g1 n rw ro kt lt sl (go + (sumN kn 6 + sumN lo 6)) re ∧ isC cy K ad g1 cz (zK kn 6) (zK lo 6) pa (nI 0) hu 0 ∧ zFr (fun z9 => z9 = n ∨ (cz ≤ z9 ∧ z9 < cz + 4)) g g1) (zOut D cy K ad sz) (zA K ad sz)) 0 0 (zA K ad sz) := by
  refine z_met (by decide) (Nat.le_of_ble_eq_true rfl) (fun p e s m below meth c ls hsz hl C0 hr hnm hP hS => ?_)
  subst hsz
  have hl : lv_has ls 3 [(0, .ref (ad n)), (1, .ref (ad cz))] := hl
  have hx := C0.1; have hb := C0.2.1; have hown := C0.2.2.2.1; have hts := C0.2.2.2.2.1
  have hFr : zFr (fun z9 => z9 = n ∨ (cz ≤ z9 ∧ z9 < cz + 4)) g g := zFr.rf
  refine lv_aload_n hx hb dX1_replace_0 rfl (lv_at hl 1 rfl) ?_
  refine z_Vi_eq (As := []) (rest := []) C0 hP hS hl.1 (m_X0_told l _ hC) lk_X1_60 hC.n0 hC.o rfl rfl (Nat.le_of_ble_eq_true rfl) ⟨Nat.le_of_ble_eq_true rfl, Nat.le_of_ble_eq_true rfl⟩ rfl rfl ⟨Nat.zero_le _, Nat.zero_le _⟩ dX1_replace_1 (fun H locs hP hS => ?_)
  refine lv_istore_n (lv' := [(2, .int (tld kn lo 6)), (0, .ref (ad n)), (1, .ref (ad cz))]) hx hb dX1_replace_4 rfl hl (by decide) rfl (fun ls hl => ?_)
  refine lv_aload_n hx hb dX1_replace_5 rfl (lv_at hl 1 rfl) ?_
  refine lv_dup hx hb dX1_replace_6 rfl ?_
  refine z_get C0 hP hG.n0 hG.o fd_X1_30 rfl dX1_replace_7 ?_
  refine lv_aload_n hx hb dX1_replace_10 rfl (lv_at hl 2 rfl) ?_
  refine z_Vi_eq (As := []) (rest := [.int go, .ref (ad n)]) C0 hP hS hl.1 (m_X0_ties l _ hC) lk_X1_85 hC.n0 hC.o rfl rfl (Nat.le_of_ble_eq_true rfl) ⟨Nat.le_of_ble_eq_true rfl, Nat.le_of_ble_eq_true rfl⟩ rfl rfl ⟨Nat.zero_le _, Nat.zero_le _⟩ dX1_replace_11 (fun H locs hP hS => ?_)
  refine lv_iadd hx hb dX1_replace_14 ?_
  refine zp_G_go C0 hP hS hG hFr (by first | rfl | (dsimp only [zOne, zRg]; omega) | (dsimp only; omega) | omega) fp_X1_30 dX1_replace_15 (fun g_1 H locs hP hS hG hFr hF1 => ?_)
  have hC := hC.kept hF1 (by first | (dsimp only [zOne, zRg]; omega) | (dsimp only; omega) | omega)
  refine lv_aload_n hx hb dX1_replace_18 rfl (lv_at hl 2 rfl) ?_
  refine z_Vv_mo (As := []) (rest := []) C0 hP hS hl.1 (m_X0_becomeNew l _ hC) lk_X1_88 hC.n0 hC.o rfl rfl (Nat.le_of_ble_eq_true rfl) ⟨Nat.le_of_ble_eq_true rfl, Nat.le_of_ble_eq_true rfl⟩ rfl rfl ⟨Nat.zero_le _, Nat.zero_le _⟩ dX1_replace_19 (fun g_2 H locs hP hS hp => ?_)
  obtain ⟨hC, hF1⟩ := hp
  have hG := hG.kept hF1 (by first | (dsimp only [zOne, zRg]; omega) | (dsimp only; omega) | omega)
  have hFr := hFr.tr (hF1.mono (by intro x9 hx9; first | (dsimp only [zOne, zRg] at hx9 ⊢; omega) | (dsimp only at hx9 ⊢; omega) | omega))
  refine lv_iload_n hx hb dX1_replace_22 rfl (lv_at hl 0 rfl) ?_
  exact z_iret C0 hP hS hr (⟨rfl, hG, hC, hFr⟩) dX1_replace_23
