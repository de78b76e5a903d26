set_option maxHeartbeats 4000000 in
set_option maxRecDepth 100000 in
theorem m_X5_thrown (l : Launch) {D : va_G} {cy : Nat → ClassId} {K : Nat} {ad : Nat → Nat} {g : Nat → va_E} (sz : Nat) {n : Nat} {sx az so ik sv tx kn lo : Nat → Int32} {th sm lz : Int32} {dg : Int64}  (hM : isM cy K ad g n sx az so ik sv tx kn lo th sm lz dg) : Met l yX5_thrown (zs yX5_thrown cX5_thrown 1 (some .int)) ({ frames := 0, cells := 0, slots := 0, locals := 0 } : Room) (va_Pc [.ref (ad n)] (zIn D cy K ad g sz)) (va_Qi (fun r g1 => g1 = g ∧ r = th) (zOut D cy K ad sz) (zA K ad sz)) 0 0 (zA K ad sz) := by
  refine z_met (by decide) (Nat.le_of_ble_eq_true rfl) (fun p e s m below meth c ls hsz hl C0 hr hnm hP hS => ?_)
  subst hsz
  have hl : lv_has ls 1 [(0, .ref (ad n))] := hl
  have hx := C0.1; have hb := C0.2.1; have hown := C0.2.2.2.1; have hts := C0.2.2.2.2.1
  refine lv_aload_n hx hb dX5_thrown_0 rfl (lv_at hl 0 rfl) ?_
  refine z_get C0 hP hM.n0 hM.o fd_X5_35 rfl dX5_thrown_1 ?_
  exact z_iret C0 hP hS hr (⟨rfl, rfl⟩) dX5_thrown_4
set_option maxHeartbeats 4000000 in
set_option maxRecDepth 100000 in
theorem m_X5_in (l : Launch) {D : va_G} {cy : Nat → ClassId} {K : Nat} {ad : Nat → Nat} {g : Nat → va_E} (sz : Nat) {vz a9 b9 : Int32}  : Met l yX5_in (zs yX5_in cX5_in 3 (some .boolean)) ({ frames := 0, cells := 0, slots := 0, locals := 0 } : Room) (va_Pc [.int vz, .int a9, .int b9] (zIn D cy K ad g sz)) (va_Qi (fun r g1 => g1 = g ∧ r = if a9 ≤ vz ∧ vz ≤ b9 then 1 else 0) (zOut D cy K ad sz) (zA K ad sz)) 0 0 (zA K ad sz) := by
  refine z_met (by decide) (Nat.le_of_ble_eq_true rfl) (fun p e s m below meth c ls hsz hl C0 hr hnm hP hS => ?_)
  subst hsz
  have hl : lv_has ls 3 [(0, .int vz), (1, .int a9), (2, .int b9)] := hl
  have hx := C0.1; have hb := C0.2.1; have hown := C0.2.2.2.1; have hts := C0.2.2.2.2.1
  refine lv_iload_n hx hb dX5_in_0 rfl (lv_at hl 0 rfl) ?_
  refine lv_iload_n hx hb dX5_in_1 rfl (lv_at hl 1 rfl) ?_
  refine lv_icmp_lt (tgt := 14) hx hb dX5_in_2 (by decide) (fun c_2 => ?_) (fun c_2 => ?_)
  · refine lv_iconst (v := 0) hx hb dX5_in_14 (by decide) ?_
    exact z_zret C0 hP hS hr rfl (⟨rfl, by first | exact (if_pos ⟨Int32.not_lt.mp c_2, Int32.not_lt.mp c_7⟩).symm | exact (if_neg (fun q => absurd c_2 (Int32.not_lt.mpr q.1))).symm | exact (if_neg (fun q => absurd c_7 (Int32.not_lt.mpr q.2))).symm⟩) dX5_in_15
  · refine lv_iload_n hx hb dX5_in_5 rfl (lv_at hl 0 rfl) ?_
    refine lv_iload_n hx hb dX5_in_6 rfl (lv_at hl 2 rfl) ?_
    refine lv_icmp_gt (tgt := 14) hx hb dX5_in_7 (by decide) (fun c_7 => ?_) (fun c_7 => ?_)
    · refine lv_iconst (v := 0) hx hb dX5_in_14 (by decide) ?_
      exact z_zret C0 hP hS hr rfl (⟨rfl, by first | exact (if_pos ⟨Int32.not_lt.mp c_2, Int32.not_lt.mp c_7⟩).symm | exact (if_neg (fun q => absurd c_2 (Int32.not_lt.mpr q.1))).symm | exact (if_neg (fun q => absurd c_7 (Int32.not_lt.mpr q.2))).symm⟩) dX5_in_15
    · refine lv_iconst (v := 1) hx hb dX5_in_10 (by decide) ?_
      refine lv_goto (tgt := 15) hx hb dX5_in_11 (by decide) ?_
      exact z_zret C0 hP hS hr rfl (⟨rfl, by first | exact (if_pos ⟨Int32.not_lt.mp c_2, Int32.not_lt.mp c_7⟩).symm | exact (if_neg (fun q => absurd c_2 (Int32.not_lt.mpr q.1))).symm | exact (if_neg (fun q => absurd c_7 (Int32.not_lt.mpr q.2))).symm⟩) dX5_in_15
set_option maxHeartbeats 4000000 in
set_option maxRecDepth 100000 in
theorem m_X5_isCord (l : Launch) {D : va_G} {cy : Nat → ClassId} {K : Nat} {ad : Nat → Nat} {g : Nat → va_E} (sz : Nat) {vz : Int32}  : Met l yX5_isCord (zs yX5_isCord cX5_isCord 1 (some .boolean)) ({ frames := 1, cells := 0, slots := 0, locals := 22 } : Room) (va_Pc [.int vz] (zIn D cy K ad g sz)) (va_Qi (fun r g1 => g1 = g ∧ r = if 0 ≤ vz ∧ vz ≤ 6 then 1 else 0) (zOut D cy K ad sz) (zA K ad sz)) 0 0 (zA K ad sz) := by
  refine z_met (by decide) (Nat.le_of_ble_eq_true rfl) (fun p e s m below meth c ls hsz hl C0 hr hnm hP hS => ?_)
  subst hsz
  have hl : lv_has ls 1 [(0, .int vz)] := hl
  have hx := C0.1; have hb := C0.2.1; have hown := C0.2.2.2.1; have hts := C0.2.2.2.2.1
  refine lv_iload_n hx hb dX5_isCord_0 rfl (lv_at hl 0 rfl) ?_
  refine lv_iconst (v := 0) hx hb dX5_isCord_1 (by decide) ?_
  refine lv_bipush (v := 6) hx hb dX5_isCord_2 (by decide) ?_
  refine z_Si_eq (As := [.int vz, .int 0, .int 6]) (rest := []) C0 hP hS hl.1 (m_X5_in l _ ) lk_X5_39 rfl rfl (Nat.le_of_ble_eq_true rfl) ⟨Nat.le_of_ble_eq_true rfl, Nat.le_of_ble_eq_true rfl⟩ rfl rfl ⟨Nat.zero_le _, Nat.zero_le _⟩ dX5_isCord_4 (fun H locs hP hS => ?_)
  exact z_zret C0 hP hS hr znar (⟨rfl, rfl⟩) dX5_isCord_7
set_option maxHeartbeats 4000000 in
set_option maxRecDepth 100000 in
theorem m_X5_holds (l : Launch) {D : va_G} {cy : Nat → ClassId} {K : Nat} {ad : Nat → Nat} {g : Nat → va_E} (sz : Nat) {n : Nat} {sx az so ik sv tx kn lo : Nat → Int32} {th sm lz : Int32} {dg : Int64} {pl : Int32} (hM : isM cy K ad g n sx az so ik sv tx kn lo th sm lz dg) : Met l yX5_holds (zs yX5_holds cX5_holds 2 (some .boolean)) ({ frames := 0, cells := 0, slots := 0, locals := 0 } : Room) (va_Pc [.ref (ad n), .int pl] (zIn D cy K ad g sz)) (va_Qi (fun r g1 => r = (if pl = 0 then 1 else 0) ∧ isM cy K ad g1 n sx az so ik sv tx kn lo pl sm lz dg ∧ zFr (zOne n) g g1) (zOut D cy K ad sz) (zA K ad sz)) 0 0 (zA K ad sz) := by
  refine z_met (by decide) (Nat.le_of_ble_eq_true rfl) (fun p e s m below meth c ls hsz hl C0 hr hnm hP hS => ?_)
  subst hsz
  have hl : lv_has ls 2 [(0, .ref (ad n)), (1, .int pl)] := hl
  have hx := C0.1; have hb := C0.2.1; have hown := C0.2.2.2.1; have hts := C0.2.2.2.2.1
  have hFr : zFr (zOne n) g g := zFr.rf
  refine lv_aload_n hx hb dX5_holds_0 rfl (lv_at hl 0 rfl) ?_
  refine lv_iload_n hx hb dX5_holds_1 rfl (lv_at hl 1 rfl) ?_
  refine zp_M_th C0 hP hS hM hFr (by first | rfl | (dsimp only [zOne, zRg, zCl]; omega) | (dsimp only; omega) | omega) fp_X5_35 dX5_holds_2 (fun g_1 H locs hP hS hM hFr hF1 => ?_)
  refine lv_iload_n hx hb dX5_holds_5 rfl (lv_at hl 1 rfl) ?_
  refine lv_if_ne (tgt := 13) hx hb dX5_holds_6 (by decide) (fun c_6 => ?_) (fun c_6 => ?_)
  · refine lv_iconst (v := 0) hx hb dX5_holds_13 (by decide) ?_
    exact z_zret C0 hP hS hr rfl (⟨(if_neg c_6).symm, hM, hFr⟩) dX5_holds_14
  · refine lv_iconst (v := 1) hx hb dX5_holds_9 (by decide) ?_
    refine lv_goto (tgt := 14) hx hb dX5_holds_10 (by decide) ?_
    exact z_zret C0 hP hS hr rfl (⟨(if_pos c_6).symm, hM, hFr⟩) dX5_holds_14
set_option maxHeartbeats 4000000 in
set_option maxRecDepth 100000 in
theorem m_X5_at (l : Launch) {D : va_G} {cy : Nat → ClassId} {K : Nat} {ad : Nat → Nat} {g : Nat → va_E} (sz : Nat) {iz jz : Nat}  : Met l yX5_at (zs yX5_at cX5_at 2 (some .int)) ({ frames := 0, cells := 0, slots := 0, locals := 0 } : Room) (va_Pc [.int (nI iz), .int (nI jz)] (zIn D cy K ad g sz)) (va_Qi (fun r g1 => g1 = g ∧ r = nI (6 + 31 * iz + jz)) (zOut D cy K ad sz) (zA K ad sz)) 0 0 (zA K ad sz) := by
  refine z_met (by decide) (Nat.le_of_ble_eq_true rfl) (fun p e s m below meth c ls hsz hl C0 hr hnm hP hS => ?_)
  subst hsz
  have hl : lv_has ls 2 [(0, .int (nI iz)), (1, .int (nI jz))] := hl
  have hx := C0.1; have hb := C0.2.1; have hown := C0.2.2.2.1; have hts := C0.2.2.2.2.1
  refine lv_bipush (v := 6) hx hb dX5_at_0 (by decide) ?_
  refine lv_bipush (v := 31) hx hb dX5_at_2 (by decide) ?_
  refine lv_iload_n hx hb dX5_at_4 rfl (lv_at hl 0 rfl) ?_
  refine lv_imul hx hb dX5_at_5 ?_
  refine lv_iadd hx hb dX5_at_6 ?_
  refine lv_iload_n hx hb dX5_at_7 rfl (lv_at hl 1 rfl) ?_
  refine lv_iadd hx hb dX5_at_8 ?_
  exact z_iret C0 hP hS hr (⟨rfl, zAt iz jz⟩) dX5_at_9
set_option maxHeartbeats 4000000 in
set_option maxRecDepth 100000 in
theorem m_X5_of (l : Launch) {D : va_G} {cy : Nat → ClassId} {K : Nat} {ad : Nat → Nat} {g : Nat → va_E} (sz : Nat) {n : Nat} {sx az so ik sv tx kn lo : Nat → Int32} {th sm lz : Int32} {dg : Int64} {iz jz : Nat} (hM : isM cy K ad g n sx az so ik sv tx kn lo th sm lz dg) (hi : iz < 7) (hj : jz < 31) : Met l yX5_of (zs yX5_of cX5_of 3 (some .int)) ({ frames := 1, cells := 0, slots := 0, locals := 21 } : Room) (va_Pc [.ref (ad n), .int (nI iz), .int (nI jz)] (zIn D cy K ad g sz)) (va_Qi (fun r g1 => g1 = g ∧ r = sx (6 + 31 * iz + jz)) (zOut D cy K ad sz) (zA K ad sz)) 0 0 (zA K ad sz) := by
  refine z_met (by decide) (Nat.le_of_ble_eq_true rfl) (fun p e s m below meth c ls hsz hl C0 hr hnm hP hS => ?_)
  subst hsz
  have hl : lv_has ls 3 [(0, .ref (ad n)), (1, .int (nI iz)), (2, .int (nI jz))] := hl
  have hx := C0.1; have hb := C0.2.1; have hown := C0.2.2.2.1; have hts := C0.2.2.2.2.1
  refine lv_aload_n hx hb dX5_of_0 rfl (lv_at hl 0 rfl) ?_
  refine z_get C0 hP hM.n0 hM.o fd_X5_7 rfl dX5_of_1 ?_
  refine lv_iload_n hx hb dX5_of_4 rfl (lv_at hl 1 rfl) ?_
  refine lv_iload_n hx hb dX5_of_5 rfl (lv_at hl 2 rfl) ?_
  refine z_Si_eq (As := [.int (nI iz), .int (nI jz)]) (rest := [.ref (ad (n + 1))]) C0 hP hS hl.1 (m_X5_at l _ ) lk_X5_43 rfl rfl (Nat.le_of_ble_eq_true rfl) ⟨Nat.le_of_ble_eq_true rfl, Nat.le_of_ble_eq_true rfl⟩ rfl rfl ⟨Nat.zero_le _, Nat.zero_le _⟩ dX5_of_6 (fun H locs hP hS => ?_)
  refine z_iald C0 hP hM.n1 hM.a_s (zIx_nI (by omega) (by decide)) dX5_of_9 ?_
  exact z_iret C0 hP hS hr (⟨rfl, rfl⟩) dX5_of_10
set_option maxHeartbeats 4000000 in
set_option maxRecDepth 100000 in
theorem m_X5_putAside (l : Launch) {D : va_G} {cy : Nat → ClassId} {K : Nat} {ad : Nat → Nat} {g : Nat → va_E} (sz : Nat) {n : Nat} {sx az so ik sv tx kn lo : Nat → Int32} {th sm lz : Int32} {dg : Int64}  (hM : isM cy K ad g n sx az so ik sv tx kn lo th sm lz dg) : Met l yX5_putAside (zs yX5_putAside cX5_putAside 2 none) ({ frames := 0, cells := 0, slots := 0, locals := 0 } : Room) (va_Pc [.ref (ad n)] (zIn D cy K ad g sz)) (va_Qv (fun g1 => isM cy K ad g1 n sx (cpF sx az 223) so ik sv tx kn lo th sm lz dg ∧ zFr (zRg n (n + 9)) g g1) (zOut D cy K ad sz) (zA K ad sz)) 0 0 (zA K ad sz) := by
  refine z_met (by decide) (Nat.le_of_ble_eq_true rfl) (fun p e s m below meth c ls hsz hl C0 hr hnm hP hS => ?_)
  subst hsz
  have hl : lv_has ls 2 [(0, .ref (ad n))] := hl
  have hx := C0.1; have hb := C0.2.1; have hown := C0.2.2.2.1; have hts := C0.2.2.2.2.1
  have hFr : zFr (zRg n (n + 9)) g g := zFr.rf
  refine lv_iconst (v := 0) hx hb dX5_putAside_0 (by decide) ?_
  refine lv_istore_n (lv' := [(1, .int 0), (0, .ref (ad n))]) hx hb dX5_putAside_1 rfl hl (by decide) rfl (fun ls hl => ?_)
  have lp_2 : ∀ (N : Nat) (kz : Nat) (hk : kz ≤ 223), 223 - kz < N → ∀ (g_1 : Nat → va_E) (H : Heap) (locs : List Loc) (ls : Array Slot), zP D K ad g_1 (zA K ad s.heap.size) H → va_S (zA K ad s.heap.size) s.heap H locs → isM cy K ad g_1 n sx (cpF sx az kz) so ik sv tx kn lo th sm lz dg → zFr (zRg n (n + 9)) g g_1 → lv_has ls 2 [(0, .ref (ad n)), (1, .int (nI kz))] → W p l e ({ frames := 0, cells := 0, slots := 0, locals := 0 } : Room) s m [.ref (ad n)].toArray below meth c H locs 0 0 (MQ below (va_Qv (fun g1 => isM cy K ad g1 n sx (cpF sx az 223) so ik sv tx kn lo th sm lz dg ∧ zFr (zRg n (n + 9)) g g1) (zOut D cy K ad s.heap.size) (zA K ad s.heap.size)) [.ref (ad n)].toArray s 0 0 (zA K ad s.heap.size)) (F0 m 2 ls []) := by
    intro N
    induction N with
    | zero => intro kz hk hN; exact absurd hN (Nat.not_lt_zero _)
    | succ N ih_2 =>
      intro kz hk hN g_1 H locs ls hP hS hM hFr hl
      refine lv_iload_n hx hb dX5_putAside_2 rfl (lv_at hl 1 rfl) ?_
      refine lv_sipush (v := 223) hx hb dX5_putAside_3 (by decide) ?_
      refine lv_icmp_ge (tgt := 27) hx hb dX5_putAside_6 (by decide) (fun c_6 => ?_) (fun c_6 => ?_)
      · have hk2 : kz = 223 := by have := z_ge_t (b := 223) c_6 (by omega) (by omega); omega
        subst hk2
        exact z_vret C0 hP hS hr (⟨hM, hFr⟩) dX5_putAside_27
      · have hk2 : kz < 223 := z_ge_f (b := 223) c_6 (by omega) (by omega)
        refine lv_aload_n hx hb dX5_putAside_9 rfl (lv_at hl 0 rfl) ?_
        refine z_get C0 hP hM.n0 hM.o fd_X5_13 rfl dX5_putAside_10 ?_
        refine lv_iload_n hx hb dX5_putAside_13 rfl (lv_at hl 1 rfl) ?_
        refine lv_aload_n hx hb dX5_putAside_14 rfl (lv_at hl 0 rfl) ?_
        refine z_get C0 hP hM.n0 hM.o fd_X5_7 rfl dX5_putAside_15 ?_
        refine lv_iload_n hx hb dX5_putAside_18 rfl (lv_at hl 1 rfl) ?_
        refine z_iald C0 hP hM.n1 hM.a_s (zIx_nI (by omega) (by decide)) dX5_putAside_19 ?_
        refine zp_M_as C0 hP hS hM hFr (by first | rfl | (dsimp only [zOne, zRg, zCl]; omega) | (dsimp only; omega) | omega) (zIx_nI (by omega) (by decide)) dX5_putAside_20 (fun g_2 H locs hP hS hM hFr hF1 => ?_)
        rw [cpF_up] at hM
        refine lv_iinc (v := nI (kz + 1)) (lv' := [(1, .int (nI (kz + 1))), (0, .ref (ad n))]) hx hb dX5_putAside_21 hl (k := 1) rfl (z_inc _) (by decide) rfl (fun ls hl => ?_)
        refine lv_goto (tgt := 2) hx hb dX5_putAside_24 (by decide) ?_
        exact ih_2 (kz + 1) hk2 (by omega) _ _ _ _ hP hS hM hFr (lv_sub hl [1, 0] rfl)
  have hM : isM cy K ad g n sx (cpF sx az 0) so ik sv tx kn lo th sm lz dg := by rw [cpF_0]; exact hM
  exact lp_2 _ 0 (Nat.zero_le _) (Nat.lt_succ_self _) _ _ _ _ hP hS hM hFr (lv_sub hl [1, 0] rfl)
set_option maxHeartbeats 4000000 in
set_option maxRecDepth 100000 in
theorem m_X5_putBack (l : Launch) {D : va_G} {cy : Nat → ClassId} {K : Nat} {ad : Nat → Nat} {g : Nat → va_E} (sz : Nat) {n : Nat} {sx az so ik sv tx kn lo : Nat → Int32} {th sm lz : Int32} {dg : Int64}  (hM : isM cy K ad g n sx az so ik sv tx kn lo th sm lz dg) : Met l yX5_putBack (zs yX5_putBack cX5_putBack 2 none) ({ frames := 0, cells := 0, slots := 0, locals := 0 } : Room) (va_Pc [.ref (ad n)] (zIn D cy K ad g sz)) (va_Qv (fun g1 => isM cy K ad g1 n (cpF az sx 223) az so ik sv tx kn lo th sm lz dg ∧ zFr (zRg n (n + 9)) g g1) (zOut D cy K ad sz) (zA K ad sz)) 0 0 (zA K ad sz) := by
  refine z_met (by decide) (Nat.le_of_ble_eq_true rfl) (fun p e s m below meth c ls hsz hl C0 hr hnm hP hS => ?_)
  subst hsz
  have hl : lv_has ls 2 [(0, .ref (ad n))] := hl
  have hx := C0.1; have hb := C0.2.1; have hown := C0.2.2.2.1; have hts := C0.2.2.2.2.1
  have hFr : zFr (zRg n (n + 9)) g g := zFr.rf
  refine lv_iconst (v := 0) hx hb dX5_putBack_0 (by decide) ?_
  refine lv_istore_n (lv' := [(1, .int 0), (0, .ref (ad n))]) hx hb dX5_putBack_1 rfl hl (by decide) rfl (fun ls hl => ?_)
  have lp_2 : ∀ (N : Nat) (kz : Nat) (hk : kz ≤ 223), 223 - kz < N → ∀ (g_1 : Nat → va_E) (H : Heap) (locs : List Loc) (ls : Array Slot), zP D K ad g_1 (zA K ad s.heap.size) H → va_S (zA K ad s.heap.size) s.heap H locs → isM cy K ad g_1 n (cpF az sx kz) az so ik sv tx kn lo th sm lz dg → zFr (zRg n (n + 9)) g g_1 → lv_has ls 2 [(0, .ref (ad n)), (1, .int (nI kz))] → W p l e ({ frames := 0, cells := 0, slots := 0, locals := 0 } : Room) s m [.ref (ad n)].toArray below meth c H locs 0 0 (MQ below (va_Qv (fun g1 => isM cy K ad g1 n (cpF az sx 223) az so ik sv tx kn lo th sm lz dg ∧ zFr (zRg n (n + 9)) g g1) (zOut D cy K ad s.heap.size) (zA K ad s.heap.size)) [.ref (ad n)].toArray s 0 0 (zA K ad s.heap.size)) (F0 m 2 ls []) := by
    intro N
    induction N with
    | zero => intro kz hk hN; exact absurd hN (Nat.not_lt_zero _)
    | succ N ih_2 =>
      intro kz hk hN g_1 H locs ls hP hS hM hFr hl
      refine lv_iload_n hx hb dX5_putBack_2 rfl (lv_at hl 1 rfl) ?_
      refine lv_sipush (v := 223) hx hb dX5_putBack_3 (by decide) ?_
      refine lv_icmp_ge (tgt := 27) hx hb dX5_putBack_6 (by decide) (fun c_6 => ?_) (fun c_6 => ?_)
      · have hk2 : kz = 223 := by have := z_ge_t (b := 223) c_6 (by omega) (by omega); omega
        subst hk2
        exact z_vret C0 hP hS hr (⟨hM, hFr⟩) dX5_putBack_27
      · have hk2 : kz < 223 := z_ge_f (b := 223) c_6 (by omega) (by omega)
        refine lv_aload_n hx hb dX5_putBack_9 rfl (lv_at hl 0 rfl) ?_
        refine z_get C0 hP hM.n0 hM.o fd_X5_7 rfl dX5_putBack_10 ?_
        refine lv_iload_n hx hb dX5_putBack_13 rfl (lv_at hl 1 rfl) ?_
        refine lv_aload_n hx hb dX5_putBack_14 rfl (lv_at hl 0 rfl) ?_
        refine z_get C0 hP hM.n0 hM.o fd_X5_13 rfl dX5_putBack_15 ?_
        refine lv_iload_n hx hb dX5_putBack_18 rfl (lv_at hl 1 rfl) ?_
        refine z_iald C0 hP hM.n2 hM.a_as (zIx_nI (by omega) (by decide)) dX5_putBack_19 ?_
        refine zp_M_s C0 hP hS hM hFr (by first | rfl | (dsimp only [zOne, zRg, zCl]; omega) | (dsimp only; omega) | omega) (zIx_nI (by omega) (by decide)) dX5_putBack_20 (fun g_2 H locs hP hS hM hFr hF1 => ?_)
        rw [cpF_up] at hM
        refine lv_iinc (v := nI (kz + 1)) (lv' := [(1, .int (nI (kz + 1))), (0, .ref (ad n))]) hx hb dX5_putBack_21 hl (k := 1) rfl (z_inc _) (by decide) rfl (fun ls hl => ?_)
        refine lv_goto (tgt := 2) hx hb dX5_putBack_24 (by decide) ?_
        exact ih_2 (kz + 1) hk2 (by omega) _ _ _ _ hP hS hM hFr (lv_sub hl [1, 0] rfl)
  have hM : isM cy K ad g n (cpF az sx 0) az so ik sv tx kn lo th sm lz dg := by rw [cpF_0]; exact hM
  exact lp_2 _ 0 (Nat.zero_le _) (Nat.lt_succ_self _) _ _ _ _ hP hS hM hFr (lv_sub hl [1, 0] rfl)
set_option maxHeartbeats 4000000 in
set_option maxRecDepth 100000 in
theorem m_X5_open (l : Launch) {D : va_G} {cy : Nat → ClassId} {K : Nat} {ad : Nat → Nat} {g : Nat → va_E} (sz : Nat) {n : Nat} {sx az so ik sv tx kn lo : Nat → Int32} {th sm lz : Int32} {dg : Int64} {iz jz : Nat} (hM : isM cy K ad g n sx az so ik sv tx kn lo th sm lz dg) (hi : iz < 7) (hj : jz < 6) : Met l yX5_open (zs yX5_open cX5_open 3 (some .int)) ({ frames := 2, cells := 0, slots := 0, locals := 43 } : Room) (va_Pc [.ref (ad n), .int (nI iz), .int (nI jz)] (zIn D cy K ad g sz)) (va_Qi (fun r g1 => g1 = g ∧ r = opn (fK sx iz) (fL sx iz) jz) (zOut D cy K ad sz) (zA K ad sz)) 0 0 (zA K ad sz) := by
  refine z_met (by decide) (Nat.le_of_ble_eq_true rfl) (fun p e s m below meth c ls hsz hl C0 hr hnm hP hS => ?_)
  subst hsz
  have hl : lv_has ls 3 [(0, .ref (ad n)), (1, .int (nI iz)), (2, .int (nI jz))] := hl
  have hx := C0.1; have hb := C0.2.1; have hown := C0.2.2.2.1; have hts := C0.2.2.2.2.1
  refine lv_aload_n hx hb dX5_open_0 rfl (lv_at hl 0 rfl) ?_
  refine lv_iload_n hx hb dX5_open_1 rfl (lv_at hl 1 rfl) ?_
  refine lv_bipush (v := 19) hx hb dX5_open_2 (by decide) ?_
  refine lv_iload_n hx hb dX5_open_4 rfl (lv_at hl 2 rfl) ?_
  refine lv_iadd hx hb dX5_open_5 ?_
  refine z_topi (y := nI (19 + jz)) (nI_add 19 jz) ?_
  refine z_Vi_eq (As := [.int (nI iz), .int (nI (19 + jz))]) (rest := []) C0 hP hS hl.1 (m_X5_of l _ hM hi (by omega)) lk_X5_50 hM.n0 hM.o rfl rfl (Nat.le_of_ble_eq_true rfl) ⟨Nat.le_of_ble_eq_true rfl, Nat.le_of_ble_eq_true rfl⟩ rfl rfl ⟨Nat.zero_le _, Nat.zero_le _⟩ dX5_open_6 (fun H locs hP hS => ?_)
  refine lv_bipush (v := 10) hx hb dX5_open_9 (by decide) ?_
  refine lv_aload_n hx hb dX5_open_11 rfl (lv_at hl 0 rfl) ?_
  refine lv_iload_n hx hb dX5_open_12 rfl (lv_at hl 1 rfl) ?_
  refine lv_bipush (v := 25) hx hb dX5_open_13 (by decide) ?_
  refine lv_iload_n hx hb dX5_open_15 rfl (lv_at hl 2 rfl) ?_
  refine lv_iadd hx hb dX5_open_16 ?_
  refine z_topi (y := nI (25 + jz)) (nI_add 25 jz) ?_
  refine z_Vi_eq (As := [.int (nI iz), .int (nI (25 + jz))]) (rest := [.int 10, .int (fK sx iz jz)]) C0 hP hS hl.1 (m_X5_of l _ hM hi (by omega)) lk_X5_50 hM.n0 hM.o rfl rfl (Nat.le_of_ble_eq_true rfl) ⟨Nat.le_of_ble_eq_true rfl, Nat.le_of_ble_eq_true rfl⟩ rfl rfl ⟨Nat.zero_le _, Nat.zero_le _⟩ dX5_open_17 (fun H locs hP hS => ?_)
  refine lv_imul hx hb dX5_open_20 ?_
  refine lv_isub hx hb dX5_open_21 ?_
  exact z_iret C0 hP hS hr (⟨rfl, rfl⟩) dX5_open_22
set_option maxHeartbeats 4000000 in
set_option maxRecDepth 100000 in
theorem m_X5_told (l : Launch) {D : va_G} {cy : Nat → ClassId} {K : Nat} {ad : Nat → Nat} {g : Nat → va_E} (sz : Nat) {n : Nat} {sx az so ik sv tx kn lo : Nat → Int32} {th sm lz : Int32} {dg : Int64} {iz : Nat} (hM : isM cy K ad g n sx az so ik sv tx kn lo th sm lz dg) (hi : iz < 7) : Met l yX5_told (zs yX5_told cX5_told 4 (some .int)) ({ frames := 3, cells := 0, slots := 0, locals := 65 } : Room) (va_Pc [.ref (ad n), .int (nI iz)] (zIn D cy K ad g sz)) (va_Qi (fun r g1 => g1 = g ∧ r = cTold sx iz) (zOut D cy K ad sz) (zA K ad sz)) 0 0 (zA K ad sz) := by
  refine z_met (by decide) (Nat.le_of_ble_eq_true rfl) (fun p e s m below meth c ls hsz hl C0 hr hnm hP hS => ?_)
  subst hsz
  have hl : lv_has ls 4 [(0, .ref (ad n)), (1, .int (nI iz))] := hl
  have hx := C0.1; have hb := C0.2.1; have hown := C0.2.2.2.1; have hts := C0.2.2.2.2.1
  refine lv_iconst (v := 0) hx hb dX5_told_0 (by decide) ?_
  refine lv_istore_n (lv' := [(2, .int 0), (0, .ref (ad n)), (1, .int (nI iz))]) hx hb dX5_told_1 rfl hl (by decide) rfl (fun ls hl => ?_)
  refine lv_iconst (v := 5) hx hb dX5_told_2 (by decide) ?_
  refine z_topi (y := nI 6 - 1) (by decide) ?_
  refine lv_istore_n (lv' := [(3, .int (nI 6 - 1)), (2, .int 0), (0, .ref (ad n)), (1, .int (nI iz))]) hx hb dX5_told_3 rfl hl (by decide) rfl (fun ls hl => ?_)
  have lp_4 : ∀ (N : Nat) (k : Nat) (hk : k ≤ 6), 6 - k < N → ∀ (H : Heap) (locs : List Loc) (ls : Array Slot), zP D K ad g (zA K ad s.heap.size) H → va_S (zA K ad s.heap.size) s.heap H locs → lv_has ls 4 [(0, .ref (ad n)), (1, .int (nI iz)), (2, .int (tld (fK sx iz) (fL sx iz) k)), (3, .int (nI (6 - k) - 1))] → W p l e ({ frames := 3, cells := 0, slots := 0, locals := 65 } : Room) s m [.ref (ad n), .int (nI iz)].toArray below meth c H locs 0 0 (MQ below (va_Qi (fun r g1 => g1 = g ∧ r = cTold sx iz) (zOut D cy K ad s.heap.size) (zA K ad s.heap.size)) [.ref (ad n), .int (nI iz)].toArray s 0 0 (zA K ad s.heap.size)) (F0 m 4 ls []) := by
    intro N
    induction N with
    | zero => intro k hk hN; exact absurd hN (Nat.not_lt_zero _)
    | succ N ih_4 =>
      intro k hk hN H locs ls hP hS  hl
      refine lv_iload_n hx hb dX5_told_4 rfl (lv_at hl 3 rfl) ?_
      refine lv_if_lt (tgt := 26) hx hb dX5_told_5 (by decide) (fun c_5 => ?_) (fun c_5 => ?_)
      · have hk2 : k = 6 := by have := z_m1_lt c_5 (by omega); omega
        subst hk2
        refine lv_iload_n hx hb dX5_told_26 rfl (lv_at hl 2 rfl) ?_
        exact z_iret C0 hP hS hr (⟨rfl, rfl⟩) dX5_told_27
      · have hk2 : k < 6 := by have := z_m1_ge c_5; omega
        have e5 : nI (6 - k) - 1 = nI (5 - k) := by rw [show 6 - k = (5 - k) + 1 by omega, nI_pred]
        rw [e5] at hl
        refine lv_bipush (v := 10) hx hb dX5_told_8 (by decide) ?_
        refine lv_iload_n hx hb dX5_told_10 rfl (lv_at hl 2 rfl) ?_
        refine lv_imul hx hb dX5_told_11 ?_
        refine lv_aload_n hx hb dX5_told_12 rfl (lv_at hl 0 rfl) ?_
        refine lv_iload_n hx hb dX5_told_13 rfl (lv_at hl 1 rfl) ?_
        refine lv_iload_n hx hb dX5_told_14 rfl (lv_at hl 3 rfl) ?_
        refine z_Vi_eq (As := [.int (nI iz), .int (nI (5 - k))]) (rest := [.int (10 * (tld (fK sx iz) (fL sx iz) k))]) C0 hP hS hl.1 (m_X5_open l _ hM hi (by omega)) lk_X5_53 hM.n0 hM.o rfl rfl (Nat.le_of_ble_eq_true rfl) ⟨Nat.le_of_ble_eq_true rfl, Nat.le_of_ble_eq_true rfl⟩ rfl rfl ⟨Nat.zero_le _, Nat.zero_le _⟩ dX5_told_15 (fun H locs hP hS => ?_)
        refine lv_iadd hx hb dX5_told_18 ?_
        refine lv_istore_n (lv' := [(2, .int ((10 * (tld (fK sx iz) (fL sx iz) k)) + (opn (fK sx iz) (fL sx iz) (5 - k)))), (0, .ref (ad n)), (1, .int (nI iz)), (3, .int (nI (5 - k)))]) hx hb dX5_told_19 rfl hl (by decide) rfl (fun ls hl => ?_)
        refine lv_iinc (v := nI (6 - (k + 1)) - 1) (lv' := [(3, .int (nI (6 - (k + 1)) - 1)), (2, .int ((10 * (tld (fK sx iz) (fL sx iz) k)) + (opn (fK sx iz) (fL sx iz) (5 - k)))), (0, .ref (ad n)), (1, .int (nI iz))]) hx hb dX5_told_20 hl (k := 3) rfl (by rw [show 6 - (k + 1) = 5 - k by omega]; exact z_decx _) (by decide) rfl (fun ls hl => ?_)
        refine lv_goto (tgt := 4) hx hb dX5_told_23 (by decide) ?_
        exact ih_4 (k + 1) hk2 (by omega) _ _ _ hP hS  (lv_sub hl [2, 3, 1, 0] rfl)
  exact lp_4 _ 0 (Nat.zero_le _) (Nat.lt_succ_self _) _ _ _ hP hS  (lv_sub hl [2, 3, 1, 0] rfl)
set_option maxHeartbeats 4000000 in
set_option maxRecDepth 100000 in
theorem m_X5_partsTold (l : Launch) {D : va_G} {cy : Nat → ClassId} {K : Nat} {ad : Nat → Nat} {g : Nat → va_E} (sz : Nat) {n : Nat} {sx az so ik sv tx kn lo : Nat → Int32} {th sm lz : Int32} {dg : Int64} {iz : Nat} (hM : isM cy K ad g n sx az so ik sv tx kn lo th sm lz dg) (hi : iz < 7) (hpc : pcOK sx) : Met l yX5_partsTold (zs yX5_partsTold cX5_partsTold 4 (some .int)) ({ frames := 2, cells := 0, slots := 0, locals := 43 } : Room) (va_Pc [.ref (ad n), .int (nI iz)] (zIn D cy K ad g sz)) (va_Qi (fun r g1 => g1 = g ∧ r = cParts sx iz) (zOut D cy K ad sz) (zA K ad sz)) 0 0 (zA K ad sz) := by
  refine z_met (by decide) (Nat.le_of_ble_eq_true rfl) (fun p e s m below meth c ls hsz hl C0 hr hnm hP hS => ?_)
  subst hsz
  have hl : lv_has ls 4 [(0, .ref (ad n)), (1, .int (nI iz))] := hl
  have hx := C0.1; have hb := C0.2.1; have hown := C0.2.2.2.1; have hts := C0.2.2.2.2.1
  refine lv_iconst (v := 0) hx hb dX5_partsTold_0 (by decide) ?_
  refine lv_istore_n (lv' := [(2, .int 0), (0, .ref (ad n)), (1, .int (nI iz))]) hx hb dX5_partsTold_1 rfl hl (by decide) rfl (fun ls hl => ?_)
  refine lv_iconst (v := (nI 0)) hx hb dX5_partsTold_2 (by decide) ?_
  refine lv_istore_n (lv' := [(3, .int (nI 0)), (2, .int 0), (0, .ref (ad n)), (1, .int (nI iz))]) hx hb dX5_partsTold_3 rfl hl (by decide) rfl (fun ls hl => ?_)
  have lp_4 : ∀ (N : Nat) (kz : Nat) (hk : kz ≤ cm sx iz), cm sx iz - kz < N → ∀ (H : Heap) (locs : List Loc) (ls : Array Slot), zP D K ad g (zA K ad s.heap.size) H → va_S (zA K ad s.heap.size) s.heap H locs → lv_has ls 4 [(0, .ref (ad n)), (1, .int (nI iz)), (2, .int (sumN (fP sx iz) kz)), (3, .int (nI kz))] → W p l e ({ frames := 2, cells := 0, slots := 0, locals := 43 } : Room) s m [.ref (ad n), .int (nI iz)].toArray below meth c H locs 0 0 (MQ below (va_Qi (fun r g1 => g1 = g ∧ r = cParts sx iz) (zOut D cy K ad s.heap.size) (zA K ad s.heap.size)) [.ref (ad n), .int (nI iz)].toArray s 0 0 (zA K ad s.heap.size)) (F0 m 4 ls []) := by
    intro N
    induction N with
    | zero => intro kz hk hN; exact absurd hN (Nat.not_lt_zero _)
    | succ N ih_4 =>
      intro kz hk hN H locs ls hP hS  hl
      have hcm := (hpc iz hi).2
      refine lv_iload_n hx hb dX5_partsTold_4 rfl (lv_at hl 3 rfl) ?_
      refine lv_aload_n hx hb dX5_partsTold_5 rfl (lv_at hl 0 rfl) ?_
      refine lv_iload_n hx hb dX5_partsTold_6 rfl (lv_at hl 1 rfl) ?_
      refine lv_iconst (v := (nI 1)) hx hb dX5_partsTold_7 (by decide) ?_
      refine z_Vi_eq (As := [.int (nI iz), .int (nI 1)]) (rest := [.int (nI kz)]) C0 hP hS hl.1 (m_X5_of l _ hM hi (by omega)) lk_X5_50 hM.n0 hM.o rfl rfl (Nat.le_of_ble_eq_true rfl) ⟨Nat.le_of_ble_eq_true rfl, Nat.le_of_ble_eq_true rfl⟩ rfl rfl ⟨Nat.zero_le _, Nat.zero_le _⟩ dX5_partsTold_8 (fun H locs hP hS => ?_)
      refine z_topi (y := nI (cm sx iz)) ((hpc iz hi).1) ?_
      refine lv_icmp_ge (tgt := 31) hx hb dX5_partsTold_11 (by decide) (fun c_11 => ?_) (fun c_11 => ?_)
      · have hk2 : kz = cm sx iz := by have := z_ge_t c_11 (by omega) (by omega); omega
        refine lv_iload_n hx hb dX5_partsTold_31 rfl (lv_at hl 2 rfl) ?_
        exact z_iret C0 hP hS hr (⟨rfl, by rw [hk2]; rfl⟩) dX5_partsTold_32
      · have hk2 : kz < cm sx iz := z_ge_f c_11 (by omega) (by omega)
        refine lv_iload_n hx hb dX5_partsTold_14 rfl (lv_at hl 2 rfl) ?_
        refine lv_aload_n hx hb dX5_partsTold_15 rfl (lv_at hl 0 rfl) ?_
        refine lv_iload_n hx hb dX5_partsTold_16 rfl (lv_at hl 1 rfl) ?_
        refine lv_iconst (v := 3) hx hb dX5_partsTold_17 (by decide) ?_
        refine lv_iload_n hx hb dX5_partsTold_18 rfl (lv_at hl 3 rfl) ?_
        refine lv_iadd hx hb dX5_partsTold_19 ?_
        refine z_topi (y := nI (3 + kz)) (nI_add 3 kz) ?_
        refine z_Vi_eq (As := [.int (nI iz), .int (nI (3 + kz))]) (rest := [.int (sumN (fP sx iz) kz)]) C0 hP hS hl.1 (m_X5_of l _ hM hi (by omega)) lk_X5_50 hM.n0 hM.o rfl rfl (Nat.le_of_ble_eq_true rfl) ⟨Nat.le_of_ble_eq_true rfl, Nat.le_of_ble_eq_true rfl⟩ rfl rfl ⟨Nat.zero_le _, Nat.zero_le _⟩ dX5_partsTold_20 (fun H locs hP hS => ?_)
        refine lv_iadd hx hb dX5_partsTold_23 ?_
        refine lv_istore_n (lv' := [(2, .int ((sumN (fP sx iz) kz) + (fP sx iz kz))), (0, .ref (ad n)), (1, .int (nI iz)), (3, .int (nI kz))]) hx hb dX5_partsTold_24 rfl hl (by decide) rfl (fun ls hl => ?_)
        refine lv_iinc (v := nI (kz + 1)) (lv' := [(3, .int (nI (kz + 1))), (2, .int ((sumN (fP sx iz) kz) + (fP sx iz kz))), (0, .ref (ad n)), (1, .int (nI iz))]) hx hb dX5_partsTold_25 hl (k := 3) rfl (z_inc _) (by decide) rfl (fun ls hl => ?_)
        refine lv_goto (tgt := 4) hx hb dX5_partsTold_28 (by decide) ?_
        exact ih_4 (kz + 1) hk2 (by omega) _ _ _ hP hS  (lv_sub hl [2, 3, 1, 0] rfl)
  exact lp_4 _ 0 (Nat.zero_le _) (Nat.lt_succ_self _) _ _ _ hP hS  (lv_sub hl [2, 3, 1, 0] rfl)
set_option maxHeartbeats 4000000 in
set_option maxRecDepth 100000 in
theorem m_X5_lacks (l : Launch) {D : va_G} {cy : Nat → ClassId} {K : Nat} {ad : Nat → Nat} {g : Nat → va_E} (sz : Nat) {n : Nat} {sx az so ik sv tx kn lo : Nat → Int32} {th sm lz : Int32} {dg : Int64} {iz : Nat} (hM : isM cy K ad g n sx az so ik sv tx kn lo th sm lz dg) (hi : iz < 7) (hpc : pcOK sx) : Met l yX5_lacks (zs yX5_lacks cX5_lacks 2 (some .int)) ({ frames := 4, cells := 0, slots := 0, locals := 88 } : Room) (va_Pc [.ref (ad n), .int (nI iz)] (zIn D cy K ad g sz)) (va_Qi (fun r g1 => g1 = g ∧ r = cLack sx iz) (zOut D cy K ad sz) (zA K ad sz)) 0 0 (zA K ad sz) := by
  refine z_met (by decide) (Nat.le_of_ble_eq_true rfl) (fun p e s m below meth c ls hsz hl C0 hr hnm hP hS => ?_)
  subst hsz
  have hl : lv_has ls 2 [(0, .ref (ad n)), (1, .int (nI iz))] := hl
  have hx := C0.1; have hb := C0.2.1; have hown := C0.2.2.2.1; have hts := C0.2.2.2.2.1
  refine lv_aload_n hx hb dX5_lacks_0 rfl (lv_at hl 0 rfl) ?_
  refine lv_iload_n hx hb dX5_lacks_1 rfl (lv_at hl 1 rfl) ?_
  refine z_Vi_eq (As := [.int (nI iz)]) (rest := []) C0 hP hS hl.1 (m_X5_partsTold l _ hM hi hpc) lk_X5_56 hM.n0 hM.o rfl rfl (Nat.le_of_ble_eq_true rfl) ⟨Nat.le_of_ble_eq_true rfl, Nat.le_of_ble_eq_true rfl⟩ rfl rfl ⟨Nat.zero_le _, Nat.zero_le _⟩ dX5_lacks_2 (fun H locs hP hS => ?_)
  refine lv_aload_n hx hb dX5_lacks_5 rfl (lv_at hl 0 rfl) ?_
  refine lv_iload_n hx hb dX5_lacks_6 rfl (lv_at hl 1 rfl) ?_
  refine z_Vi_eq (As := [.int (nI iz)]) (rest := [.int (cParts sx iz)]) C0 hP hS hl.1 (m_X5_told l _ hM hi) lk_X5_60 hM.n0 hM.o rfl rfl (Nat.le_of_ble_eq_true rfl) ⟨Nat.le_of_ble_eq_true rfl, Nat.le_of_ble_eq_true rfl⟩ rfl rfl ⟨Nat.zero_le _, Nat.zero_le _⟩ dX5_lacks_7 (fun H locs hP hS => ?_)
  refine lv_isub hx hb dX5_lacks_10 ?_
  exact z_iret C0 hP hS hr (⟨rfl, rfl⟩) dX5_lacks_11
set_option maxHeartbeats 4000000 in
set_option maxRecDepth 100000 in
theorem m_X5_ties (l : Launch) {D : va_G} {cy : Nat → ClassId} {K : Nat} {ad : Nat → Nat} {g : Nat → va_E} (sz : Nat) {n : Nat} {sx az so ik sv tx kn lo : Nat → Int32} {th sm lz : Int32} {dg : Int64} {iz : Nat} (hM : isM cy K ad g n sx az so ik sv tx kn lo th sm lz dg) (hi : iz < 7) : Met l yX5_ties (zs yX5_ties cX5_ties 4 (some .int)) ({ frames := 2, cells := 0, slots := 0, locals := 43 } : Room) (va_Pc [.ref (ad n), .int (nI iz)] (zIn D cy K ad g sz)) (va_Qi (fun r g1 => g1 = g ∧ r = cTies sx iz) (zOut D cy K ad sz) (zA K ad sz)) 0 0 (zA K ad sz) := by
  refine z_met (by decide) (Nat.le_of_ble_eq_true rfl) (fun p e s m below meth c ls hsz hl C0 hr hnm hP hS => ?_)
  subst hsz
  have hl : lv_has ls 4 [(0, .ref (ad n)), (1, .int (nI iz))] := hl
  have hx := C0.1; have hb := C0.2.1; have hown := C0.2.2.2.1; have hts := C0.2.2.2.2.1
  refine lv_iconst (v := 0) hx hb dX5_ties_0 (by decide) ?_
  refine lv_istore_n (lv' := [(2, .int 0), (0, .ref (ad n)), (1, .int (nI iz))]) hx hb dX5_ties_1 rfl hl (by decide) rfl (fun ls hl => ?_)
  refine lv_bipush (v := (nI (19 + 0))) hx hb dX5_ties_2 (by decide) ?_
  refine lv_istore_n (lv' := [(3, .int (nI (19 + 0))), (2, .int 0), (0, .ref (ad n)), (1, .int (nI iz))]) hx hb dX5_ties_4 rfl hl (by decide) rfl (fun ls hl => ?_)
  have lp_5 : ∀ (N : Nat) (kz : Nat) (hk : kz ≤ 12), 12 - kz < N → ∀ (H : Heap) (locs : List Loc) (ls : Array Slot), zP D K ad g (zA K ad s.heap.size) H → va_S (zA K ad s.heap.size) s.heap H locs → lv_has ls 4 [(0, .ref (ad n)), (1, .int (nI iz)), (2, .int (sumN (tie12 sx iz) kz)), (3, .int (nI (19 + kz)))] → W p l e ({ frames := 2, cells := 0, slots := 0, locals := 43 } : Room) s m [.ref (ad n), .int (nI iz)].toArray below meth c H locs 0 0 (MQ below (va_Qi (fun r g1 => g1 = g ∧ r = cTies sx iz) (zOut D cy K ad s.heap.size) (zA K ad s.heap.size)) [.ref (ad n), .int (nI iz)].toArray s 0 0 (zA K ad s.heap.size)) (F0 m 5 ls []) := by
    intro N
    induction N with
    | zero => intro kz hk hN; exact absurd hN (Nat.not_lt_zero _)
    | succ N ih_5 =>
      intro kz hk hN H locs ls hP hS  hl
      refine lv_iload_n hx hb dX5_ties_5 rfl (lv_at hl 3 rfl) ?_
      refine lv_bipush (v := 31) hx hb dX5_ties_6 (by decide) ?_
      refine lv_icmp_ge (tgt := 26) hx hb dX5_ties_8 (by decide) (fun c_8 => ?_) (fun c_8 => ?_)
      · have hk2 : kz = 12 := by have := z_ge_t (b := 31) c_8 (by omega) (by omega); omega
        subst hk2
        refine lv_iload_n hx hb dX5_ties_26 rfl (lv_at hl 2 rfl) ?_
        exact z_iret C0 hP hS hr (⟨rfl, tie12_eq sx iz⟩) dX5_ties_27
      · have hk2 : kz < 12 := by have := z_ge_f (b := 31) c_8 (by omega) (by omega); omega
        refine lv_iload_n hx hb dX5_ties_11 rfl (lv_at hl 2 rfl) ?_
        refine lv_aload_n hx hb dX5_ties_12 rfl (lv_at hl 0 rfl) ?_
        refine lv_iload_n hx hb dX5_ties_13 rfl (lv_at hl 1 rfl) ?_
        refine lv_iload_n hx hb dX5_ties_14 rfl (lv_at hl 3 rfl) ?_
        refine z_Vi_eq (As := [.int (nI iz), .int (nI (19 + kz))]) (rest := [.int (sumN (tie12 sx iz) kz)]) C0 hP hS hl.1 (m_X5_of l _ hM hi (by omega)) lk_X5_50 hM.n0 hM.o rfl rfl (Nat.le_of_ble_eq_true rfl) ⟨Nat.le_of_ble_eq_true rfl, Nat.le_of_ble_eq_true rfl⟩ rfl rfl ⟨Nat.zero_le _, Nat.zero_le _⟩ dX5_ties_15 (fun H locs hP hS => ?_)
        refine lv_iadd hx hb dX5_ties_18 ?_
        refine lv_istore_n (lv' := [(2, .int ((sumN (tie12 sx iz) kz) + (tie12 sx iz kz))), (0, .ref (ad n)), (1, .int (nI iz)), (3, .int (nI (19 + kz)))]) hx hb dX5_ties_19 rfl hl (by decide) rfl (fun ls hl => ?_)
        refine lv_iinc (v := nI (19 + (kz + 1))) (lv' := [(3, .int (nI (19 + (kz + 1)))), (2, .int ((sumN (tie12 sx iz) kz) + (tie12 sx iz kz))), (0, .ref (ad n)), (1, .int (nI iz))]) hx hb dX5_ties_20 hl (k := 3) rfl (z_inc _) (by decide) rfl (fun ls hl => ?_)
        refine lv_goto (tgt := 5) hx hb dX5_ties_23 (by decide) ?_
        exact ih_5 (kz + 1) hk2 (by omega) _ _ _ hP hS  (lv_sub hl [2, 3, 1, 0] rfl)
  exact lp_5 _ 0 (Nat.zero_le _) (Nat.lt_succ_self _) _ _ _ hP hS  (lv_sub hl [2, 3, 1, 0] rfl)
set_option maxHeartbeats 4000000 in
set_option maxRecDepth 100000 in
theorem m_X5_allTies (l : Launch) {D : va_G} {cy : Nat → ClassId} {K : Nat} {ad : Nat → Nat} {g : Nat → va_E} (sz : Nat) {n : Nat} {sx az so ik sv tx kn lo : Nat → Int32} {th sm lz : Int32} {dg : Int64}  (hM : isM cy K ad g n sx az so ik sv tx kn lo th sm lz dg) : Met l yX5_allTies (zs yX5_allTies cX5_allTies 3 (some .int)) ({ frames := 3, cells := 0, slots := 0, locals := 66 } : Room) (va_Pc [.ref (ad n)] (zIn D cy K ad g sz)) (va_Qi (fun r g1 => g1 = g ∧ r = sumN (cTies sx) 7) (zOut D cy K ad sz) (zA K ad sz)) 0 0 (zA K ad sz) := by
  refine z_met (by decide) (Nat.le_of_ble_eq_true rfl) (fun p e s m below meth c ls hsz hl C0 hr hnm hP hS => ?_)
  subst hsz
  have hl : lv_has ls 3 [(0, .ref (ad n))] := hl
  have hx := C0.1; have hb := C0.2.1; have hown := C0.2.2.2.1; have hts := C0.2.2.2.2.1
  refine lv_iconst (v := 0) hx hb dX5_allTies_0 (by decide) ?_
  refine lv_istore_n (lv' := [(1, .int 0), (0, .ref (ad n))]) hx hb dX5_allTies_1 rfl hl (by decide) rfl (fun ls hl => ?_)
  refine lv_iconst (v := 0) hx hb dX5_allTies_2 (by decide) ?_
  refine lv_istore_n (lv' := [(2, .int 0), (1, .int 0), (0, .ref (ad n))]) hx hb dX5_allTies_3 rfl hl (by decide) rfl (fun ls hl => ?_)
  have lp_4 : ∀ (N : Nat) (kz : Nat) (hk : kz ≤ 7), 7 - kz < N → ∀ (H : Heap) (locs : List Loc) (ls : Array Slot), zP D K ad g (zA K ad s.heap.size) H → va_S (zA K ad s.heap.size) s.heap H locs → lv_has ls 3 [(0, .ref (ad n)), (1, .int (sumN (cTies sx) kz)), (2, .int (nI kz))] → W p l e ({ frames := 3, cells := 0, slots := 0, locals := 66 } : Room) s m [.ref (ad n)].toArray below meth c H locs 0 0 (MQ below (va_Qi (fun r g1 => g1 = g ∧ r = sumN (cTies sx) 7) (zOut D cy K ad s.heap.size) (zA K ad s.heap.size)) [.ref (ad n)].toArray s 0 0 (zA K ad s.heap.size)) (F0 m 4 ls []) := by
    intro N
    induction N with
    | zero => intro kz hk hN; exact absurd hN (Nat.not_lt_zero _)
    | succ N ih_4 =>
      intro kz hk hN H locs ls hP hS  hl
      refine lv_iload_n hx hb dX5_allTies_4 rfl (lv_at hl 2 rfl) ?_
      refine lv_bipush (v := 7) hx hb dX5_allTies_5 (by decide) ?_
      refine lv_icmp_ge (tgt := 24) hx hb dX5_allTies_7 (by decide) (fun c_7 => ?_) (fun c_7 => ?_)
      · have hk2 : kz = 7 := by have := z_ge_t (b := 7) c_7 (by omega) (by omega); omega
        subst hk2
        refine lv_iload_n hx hb dX5_allTies_24 rfl (lv_at hl 1 rfl) ?_
        exact z_iret C0 hP hS hr (⟨rfl, rfl⟩) dX5_allTies_25
      · have hk2 : kz < 7 := z_ge_f (b := 7) c_7 (by omega) (by omega)
        refine lv_iload_n hx hb dX5_allTies_10 rfl (lv_at hl 1 rfl) ?_
        refine lv_aload_n hx hb dX5_allTies_11 rfl (lv_at hl 0 rfl) ?_
        refine lv_iload_n hx hb dX5_allTies_12 rfl (lv_at hl 2 rfl) ?_
        refine z_Vi_eq (As := [.int (nI kz)]) (rest := [.int (sumN (cTies sx) kz)]) C0 hP hS hl.1 (m_X5_ties l _ hM hk2) lk_X5_63 hM.n0 hM.o rfl rfl (Nat.le_of_ble_eq_true rfl) ⟨Nat.le_of_ble_eq_true rfl, Nat.le_of_ble_eq_true rfl⟩ rfl rfl ⟨Nat.zero_le _, Nat.zero_le _⟩ dX5_allTies_13 (fun H locs hP hS => ?_)
        refine lv_iadd hx hb dX5_allTies_16 ?_
        refine lv_istore_n (lv' := [(1, .int ((sumN (cTies sx) kz) + (cTies sx kz))), (0, .ref (ad n)), (2, .int (nI kz))]) hx hb dX5_allTies_17 rfl hl (by decide) rfl (fun ls hl => ?_)
        refine lv_iinc (v := nI (kz + 1)) (lv' := [(2, .int (nI (kz + 1))), (1, .int ((sumN (cTies sx) kz) + (cTies sx kz))), (0, .ref (ad n))]) hx hb dX5_allTies_18 hl (k := 2) rfl (z_inc _) (by decide) rfl (fun ls hl => ?_)
        refine lv_goto (tgt := 4) hx hb dX5_allTies_21 (by decide) ?_
        exact ih_4 (kz + 1) hk2 (by omega) _ _ _ hP hS  (lv_sub hl [2, 1, 0] rfl)
  exact lp_4 _ 0 (Nat.zero_le _) (Nat.lt_succ_self _) _ _ _ hP hS  (lv_sub hl [2, 1, 0] rfl)
set_option maxHeartbeats 4000000 in
set_option maxRecDepth 100000 in
theorem m_X5_lays (l : Launch) {D : va_G} {cy : Nat → ClassId} {K : Nat} {ad : Nat → Nat} {g : Nat → va_E} (sz : Nat) {n : Nat} {sx az so ik sv tx kn lo : Nat → Int32} {th sm lz : Int32} {dg : Int64} {iz : Nat} {num : Int32} (hM : isM cy K ad g n sx az so ik sv tx kn lo th sm lz dg) (hi : iz < 7) : Met l yX5_lays (zs yX5_lays cX5_lays 9 (some .int)) ({ frames := 4, cells := 0, slots := 0, locals := 88 } : Room) (va_Pc [.ref (ad n), .int (nI iz), .int num] (zIn D cy K ad g sz)) (va_Qi (fun r g1 => r = cRef sx iz num ∧ isM cy K ad g1 n sx az so ik sv tx (layA sx iz num kn) (layB sx iz num lo) th sm lz dg ∧ zFr (zRg n (n + 9)) g g1) (zOut D cy K ad sz) (zA K ad sz)) 0 0 (zA K ad sz) := by
  refine z_met (by decide) (Nat.le_of_ble_eq_true rfl) (fun p e s m below meth c ls hsz hl C0 hr hnm hP hS => ?_)
  subst hsz
  have hl : lv_has ls 9 [(0, .ref (ad n)), (1, .int (nI iz)), (2, .int num)] := hl
  have hx := C0.1; have hb := C0.2.1; have hown := C0.2.2.2.1; have hts := C0.2.2.2.2.1
  have hFr : zFr (zRg n (n + 9)) g g := zFr.rf
  refine lv_aload_n hx hb dX5_lays_0 rfl (lv_at hl 0 rfl) ?_
  refine lv_iload_n hx hb dX5_lays_1 rfl (lv_at hl 1 rfl) ?_
  refine z_Vi_eq (As := [.int (nI iz)]) (rest := []) C0 hP hS hl.1 (m_X5_told l _ hM hi) lk_X5_60 hM.n0 hM.o rfl rfl (Nat.le_of_ble_eq_true rfl) ⟨Nat.le_of_ble_eq_true rfl, Nat.le_of_ble_eq_true rfl⟩ rfl rfl ⟨Nat.zero_le _, Nat.zero_le _⟩ dX5_lays_2 (fun H locs hP hS => ?_)
  refine lv_iload_n hx hb dX5_lays_5 rfl (lv_at hl 2 rfl) ?_
  refine lv_iadd hx hb dX5_lays_6 ?_
  refine lv_ldc hx hb hown (hts _ q824) dX5_lays_7 ?_
  refine lv_icmp_le (tgt := 14) hx hb dX5_lays_9 (by decide) (fun c_9 => ?_) (fun c_9 => ?_)
  · refine lv_iload_n hx hb dX5_lays_14 rfl (lv_at hl 2 rfl) ?_
    refine lv_istore_n (lv' := [(3, .int num), (0, .ref (ad n)), (1, .int (nI iz)), (2, .int num)]) hx hb dX5_lays_15 rfl hl (by decide) rfl (fun ls hl => ?_)
    refine lv_iconst (v := 0) hx hb dX5_lays_16 (by decide) ?_
    refine lv_istore (lv' := [(4, .int 0), (3, .int num), (0, .ref (ad n)), (1, .int (nI iz)), (2, .int num)]) hx hb dX5_lays_17 hl (by decide) rfl (fun ls hl => ?_)
    refine lv_iconst (v := 0) hx hb dX5_lays_19 (by decide) ?_
    refine lv_istore (lv' := [(5, .int 0), (4, .int 0), (3, .int num), (0, .ref (ad n)), (1, .int (nI iz)), (2, .int num)]) hx hb dX5_lays_20 hl (by decide) rfl (fun ls hl => ?_)
    refine lv_iconst (v := 0) hx hb dX5_lays_22 (by decide) ?_
    refine lv_istore (lv' := [(6, .int 0), (5, .int 0), (4, .int 0), (3, .int num), (0, .ref (ad n)), (1, .int (nI iz)), (2, .int num)]) hx hb dX5_lays_23 hl (by decide) rfl (fun ls hl => ?_)
    have lp_25 : ∀ (N : Nat) (kz : Nat) (hk : kz ≤ 6), 6 - kz < N → ∀ (g_1 : Nat → va_E) (H : Heap) (locs : List Loc) (ls : Array Slot), zP D K ad g_1 (zA K ad s.heap.size) H → va_S (zA K ad s.heap.size) s.heap H locs → isM cy K ad g_1 n sx az so ik sv tx (layK sx iz num kn kz) (layL sx iz num lo kz) th sm lz dg → zFr (zRg n (n + 9)) g g_1 → lv_has ls 9 [(0, .ref (ad n)), (1, .int (nI iz)), (2, .int num), (3, .int (lrest num kz)), (4, .int (lcar (fK sx iz) (fL sx iz) num kz)), (5, .int (rsn (fK sx iz) (fL sx iz) num (sx 5) kz)), (6, .int (nI kz))] → W p l e ({ frames := 4, cells := 0, slots := 0, locals := 88 } : Room) s m [.ref (ad n), .int (nI iz), .int num].toArray below meth c H locs 0 0 (MQ below (va_Qi (fun r g1 => r = cRef sx iz num ∧ isM cy K ad g1 n sx az so ik sv tx (layA sx iz num kn) (layB sx iz num lo) th sm lz dg ∧ zFr (zRg n (n + 9)) g g1) (zOut D cy K ad s.heap.size) (zA K ad s.heap.size)) [.ref (ad n), .int (nI iz), .int num].toArray s 0 0 (zA K ad s.heap.size)) (F0 m 25 ls []) := by
      intro N
      induction N with
      | zero => intro kz hk hN; exact absurd hN (Nat.not_lt_zero _)
      | succ N ih_25 =>
        intro kz hk hN g_1 H locs ls hP hS hM hFr hl
        refine lv_iload hx hb dX5_lays_25 (lv_at hl 6 rfl) ?_
        refine lv_bipush (v := 6) hx hb dX5_lays_27 (by decide) ?_
        refine lv_icmp_ge (tgt := 161) hx hb dX5_lays_29 (by decide) (fun c_29 => ?_) (fun c_29 => ?_)
        · have hk2 : kz = 6 := by have := z_ge_t (b := 6) c_29 (by omega) (by omega); omega
          subst hk2
          refine lv_iload hx hb dX5_lays_161 (lv_at hl 5 rfl) ?_
          exact z_iret C0 hP hS hr (⟨by unfold cRef refuse; exact (if_pos c_9).symm, by unfold layA layB; rw [if_pos c_9, if_pos c_9]; exact hM, hFr⟩) dX5_lays_163
        · have hk2 : kz < 6 := z_ge_f (b := 6) c_29 (by omega) (by omega)
          refine lv_aload_n hx hb dX5_lays_32 rfl (lv_at hl 0 rfl) ?_
          refine z_get C0 hP hM.n0 hM.o fd_X5_29 rfl dX5_lays_33 ?_
          refine lv_iload hx hb dX5_lays_36 (lv_at hl 6 rfl) ?_
          refine lv_iload_n hx hb dX5_lays_38 rfl (lv_at hl 3 rfl) ?_
          refine lv_bipush (v := 10) hx hb dX5_lays_39 (by decide) ?_
          refine lv_irem hx hb dX5_lays_41 (by decide) ?_
          refine lv_iload hx hb dX5_lays_42 (lv_at hl 4 rfl) ?_
          refine lv_iadd hx hb dX5_lays_44 ?_
          refine z_topi (y := mK (fK sx iz) (fL sx iz) num kz) rfl ?_
          refine zp_M_kn C0 hP hS hM hFr (by first | rfl | (dsimp only [zOne, zRg, zCl]; omega) | (dsimp only; omega) | omega) (zIx_nI (by omega) (by decide)) dX5_lays_45 (fun g_2 H locs hP hS hM hFr hF1 => ?_)
          rw [cpF_up] at hM
          refine lv_aload_n hx hb dX5_lays_46 rfl (lv_at hl 0 rfl) ?_
          refine lv_iload_n hx hb dX5_lays_47 rfl (lv_at hl 1 rfl) ?_
          refine lv_iload hx hb dX5_lays_48 (lv_at hl 6 rfl) ?_
          refine z_Vi_eq (As := [.int (nI iz), .int (nI kz)]) (rest := []) C0 hP hS hl.1 (m_X5_open l _ hM hi hk2) lk_X5_53 hM.n0 hM.o rfl rfl (Nat.le_of_ble_eq_true rfl) ⟨Nat.le_of_ble_eq_true rfl, Nat.le_of_ble_eq_true rfl⟩ rfl rfl ⟨Nat.zero_le _, Nat.zero_le _⟩ dX5_lays_50 (fun H locs hP hS => ?_)
          refine lv_aload_n hx hb dX5_lays_53 rfl (lv_at hl 0 rfl) ?_
          refine z_get C0 hP hM.n0 hM.o fd_X5_29 rfl dX5_lays_54 ?_
          refine lv_iload hx hb dX5_lays_57 (lv_at hl 6 rfl) ?_
          refine z_iald C0 hP hM.n7 hM.a_kn (zIx_nI (by omega) (by decide)) dX5_lays_59 ?_
          refine z_topi (y := mK (fK sx iz) (fL sx iz) num kz) (if_pos (Nat.lt_succ_self _)) ?_
          refine lv_iadd hx hb dX5_lays_60 ?_
          refine lv_bipush (v := 10) hx hb dX5_lays_61 (by decide) ?_
          refine lv_idiv hx hb dX5_lays_63 (by decide) ?_
          refine z_topi (y := lcar (fK sx iz) (fL sx iz) num (kz + 1)) rfl ?_
          refine lv_istore (lv' := [(4, .int (lcar (fK sx iz) (fL sx iz) num (kz + 1))), (0, .ref (ad n)), (1, .int (nI iz)), (2, .int num), (3, .int (lrest num kz)), (5, .int (rsn (fK sx iz) (fL sx iz) num (sx 5) kz)), (6, .int (nI kz))]) hx hb dX5_lays_64 hl (by decide) rfl (fun ls hl => ?_)
          refine lv_aload_n hx hb dX5_lays_66 rfl (lv_at hl 1 rfl) ?_
          refine z_get C0 hP hM.n0 hM.o fd_X5_32 rfl dX5_lays_67 ?_
          refine lv_iload hx hb dX5_lays_70 (lv_at hl 6 rfl) ?_
          refine lv_iload hx hb dX5_lays_72 (lv_at hl 0 rfl) ?_
          refine z_topi (y := mL (fK sx iz) (fL sx iz) num kz) rfl ?_
          refine zp_M_lo C0 hP hS hM hFr (by first | rfl | (dsimp only [zOne, zRg, zCl]; omega) | (dsimp only; omega) | omega) (zIx_nI (by omega) (by decide)) dX5_lays_74 (fun g_3 H locs hP hS hM hFr hF1 => ?_)
          rw [cpF_up] at hM
          refine lv_iload_n hx hb dX5_lays_75 rfl (lv_at hl 4 rfl) ?_
          refine lv_bipush (v := 10) hx hb dX5_lays_76 (by decide) ?_
          refine lv_idiv hx hb dX5_lays_78 (by decide) ?_
          refine z_topi (y := lrest num (kz + 1)) rfl ?_
          refine lv_istore_n (lv' := [(3, .int (lrest num (kz + 1))), (4, .int (lcar (fK sx iz) (fL sx iz) num (kz + 1))), (0, .ref (ad n)), (1, .int (nI iz)), (2, .int num), (5, .int (rsn (fK sx iz) (fL sx iz) num (sx 5) kz)), (6, .int (nI kz))]) hx hb dX5_lays_79 rfl hl (by decide) rfl (fun ls hl => ?_)
          refine lv_aload_n hx hb dX5_lays_80 rfl (lv_at hl 2 rfl) ?_
          refine z_get C0 hP hM.n0 hM.o fd_X5_29 rfl dX5_lays_81 ?_
          refine lv_iload hx hb dX5_lays_84 (lv_at hl 6 rfl) ?_
          refine z_iald C0 hP hM.n7 hM.a_kn (zIx_nI (by omega) (by decide)) dX5_lays_86 ?_
          refine z_topi (y := mK (fK sx iz) (fL sx iz) num kz) (if_pos (Nat.lt_succ_self _)) ?_
          refine lv_aload_n hx hb dX5_lays_87 rfl (lv_at hl 2 rfl) ?_
          refine z_get C0 hP hM.n0 hM.o fd_X5_32 rfl dX5_lays_88 ?_
          refine lv_iload hx hb dX5_lays_91 (lv_at hl 6 rfl) ?_
          refine z_iald C0 hP hM.n8 hM.a_lo (zIx_nI (by omega) (by decide)) dX5_lays_93 ?_
          refine z_topi (y := mL (fK sx iz) (fL sx iz) num kz) (if_pos (Nat.lt_succ_self _)) ?_
          refine lv_iadd hx hb dX5_lays_94 ?_
          refine lv_istore (lv' := [(7, .int ((mK (fK sx iz) (fL sx iz) num kz) + (mL (fK sx iz) (fL sx iz) num kz))), (3, .int (lrest num (kz + 1))), (4, .int (lcar (fK sx iz) (fL sx iz) num (kz + 1))), (0, .ref (ad n)), (1, .int (nI iz)), (2, .int num), (5, .int (rsn (fK sx iz) (fL sx iz) num (sx 5) kz)), (6, .int (nI kz))]) hx hb dX5_lays_95 hl (by decide) rfl (fun ls hl => ?_)
          refine lv_aload_n hx hb dX5_lays_97 rfl (lv_at hl 3 rfl) ?_
          refine lv_iload_n hx hb dX5_lays_98 rfl (lv_at hl 4 rfl) ?_
          refine lv_bipush (v := 19) hx hb dX5_lays_99 (by decide) ?_
          refine lv_iload hx hb dX5_lays_101 (lv_at hl 7 rfl) ?_
          refine lv_iadd hx hb dX5_lays_103 ?_
          refine z_topi (y := nI (19 + kz)) (nI_add 19 kz) ?_
          refine z_Vi_eq (As := [.int (nI iz), .int (nI (19 + kz))]) (rest := []) C0 hP hS hl.1 (m_X5_of l _ hM hi (by omega)) lk_X5_50 hM.n0 hM.o rfl rfl (Nat.le_of_ble_eq_true rfl) ⟨Nat.le_of_ble_eq_true rfl, Nat.le_of_ble_eq_true rfl⟩ rfl rfl ⟨Nat.zero_le _, Nat.zero_le _⟩ dX5_lays_104 (fun H locs hP hS => ?_)
          refine lv_aload_n hx hb dX5_lays_107 rfl (lv_at hl 3 rfl) ?_
          refine lv_iload_n hx hb dX5_lays_108 rfl (lv_at hl 4 rfl) ?_
          refine lv_bipush (v := 25) hx hb dX5_lays_109 (by decide) ?_
          refine lv_iload hx hb dX5_lays_111 (lv_at hl 7 rfl) ?_
          refine lv_iadd hx hb dX5_lays_113 ?_
          refine z_topi (y := nI (25 + kz)) (nI_add 25 kz) ?_
          refine z_Vi_eq (As := [.int (nI iz), .int (nI (25 + kz))]) (rest := [.int (fK sx iz kz)]) C0 hP hS hl.1 (m_X5_of l _ hM hi (by omega)) lk_X5_50 hM.n0 hM.o rfl rfl (Nat.le_of_ble_eq_true rfl) ⟨Nat.le_of_ble_eq_true rfl, Nat.le_of_ble_eq_true rfl⟩ rfl rfl ⟨Nat.zero_le _, Nat.zero_le _⟩ dX5_lays_114 (fun H locs hP hS => ?_)
          refine lv_iadd hx hb dX5_lays_117 ?_
          refine lv_iload hx hb dX5_lays_118 (lv_at hl 0 rfl) ?_
          refine lv_iadd hx hb dX5_lays_120 ?_
          refine lv_aload_n hx hb dX5_lays_121 rfl (lv_at hl 3 rfl) ?_
          refine z_get C0 hP hM.n0 hM.o fd_X5_7 rfl dX5_lays_122 ?_
          refine lv_iconst (v := 5) hx hb dX5_lays_125 (by decide) ?_
          refine z_iald C0 hP hM.n1 hM.a_s (zIx_nI (j := 5) (by decide) (by decide)) dX5_lays_126 ?_
          refine lv_icmp_le (tgt := 134) hx hb dX5_lays_127 (by decide) (fun c_127 => ?_) (fun c_127 => ?_)
          · refine lv_iconst (v := 0) hx hb dX5_lays_134 (by decide) ?_
            refine lv_istore (lv' := [(8, .int 0), (7, .int ((mK (fK sx iz) (fL sx iz) num kz) + (mL (fK sx iz) (fL sx iz) num kz))), (3, .int (lrest num (kz + 1))), (4, .int (lcar (fK sx iz) (fL sx iz) num (kz + 1))), (0, .ref (ad n)), (1, .int (nI iz)), (2, .int num), (5, .int (rsn (fK sx iz) (fL sx iz) num (sx 5) kz)), (6, .int (nI kz))]) hx hb dX5_lays_135 hl (by decide) rfl (fun ls hl => ?_)
            refine lv_iload hx hb dX5_lays_137 (lv_at hl 1 rfl) ?_
            refine lv_if_le (tgt := 151) hx hb dX5_lays_139 (by decide) (fun c_139 => ?_) (fun c_139 => ?_)
            · refine lv_iload hx hb dX5_lays_151 (lv_at hl 7 rfl) ?_
              refine z_topi (y := rsn (fK sx iz) (fL sx iz) num (sx 5) (kz + 1)) (by first | exact (if_pos ⟨Int32.not_le.mp c_139, Int32.not_le.mp c_127⟩).symm | exact (if_neg (fun q => Int32.not_lt.mpr c_139 q.1)).symm | exact (if_neg (fun q => Int32.not_lt.mpr c_127 q.2)).symm) ?_
              refine lv_istore (lv' := [(5, .int (rsn (fK sx iz) (fL sx iz) num (sx 5) (kz + 1))), (8, .int 0), (7, .int ((mK (fK sx iz) (fL sx iz) num kz) + (mL (fK sx iz) (fL sx iz) num kz))), (3, .int (lrest num (kz + 1))), (4, .int (lcar (fK sx iz) (fL sx iz) num (kz + 1))), (0, .ref (ad n)), (1, .int (nI iz)), (2, .int num), (6, .int (nI kz))]) hx hb dX5_lays_153 hl (by decide) rfl (fun ls hl => ?_)
              refine lv_iinc (v := nI (kz + 1)) (lv' := [(6, .int (nI (kz + 1))), (5, .int (rsn (fK sx iz) (fL sx iz) num (sx 5) (kz + 1))), (8, .int 0), (7, .int ((mK (fK sx iz) (fL sx iz) num kz) + (mL (fK sx iz) (fL sx iz) num kz))), (3, .int (lrest num (kz + 1))), (4, .int (lcar (fK sx iz) (fL sx iz) num (kz + 1))), (0, .ref (ad n)), (1, .int (nI iz)), (2, .int num)]) hx hb dX5_lays_155 hl (k := 8) rfl (z_inc _) (by decide) rfl (fun ls hl => ?_)
              refine lv_goto (tgt := 25) hx hb dX5_lays_158 (by decide) ?_
              exact ih_25 (kz + 1) hk2 (by omega) _ _ _ _ hP hS hM hFr (lv_sub hl [6, 7, 8, 4, 5, 1, 0] rfl)
            · refine lv_iload hx hb dX5_lays_142 (lv_at hl 0 rfl) ?_
              refine lv_if_eq (tgt := 151) hx hb dX5_lays_144 (by decide) (fun c_144 => ?_) (fun c_144 => absurd rfl c_144)
              refine lv_iload hx hb dX5_lays_151 (lv_at hl 7 rfl) ?_
              refine z_topi (y := rsn (fK sx iz) (fL sx iz) num (sx 5) (kz + 1)) (by first | exact (if_pos ⟨Int32.not_le.mp c_139, Int32.not_le.mp c_127⟩).symm | exact (if_neg (fun q => Int32.not_lt.mpr c_139 q.1)).symm | exact (if_neg (fun q => Int32.not_lt.mpr c_127 q.2)).symm) ?_
              refine lv_istore (lv' := [(5, .int (rsn (fK sx iz) (fL sx iz) num (sx 5) (kz + 1))), (8, .int 0), (7, .int ((mK (fK sx iz) (fL sx iz) num kz) + (mL (fK sx iz) (fL sx iz) num kz))), (3, .int (lrest num (kz + 1))), (4, .int (lcar (fK sx iz) (fL sx iz) num (kz + 1))), (0, .ref (ad n)), (1, .int (nI iz)), (2, .int num), (6, .int (nI kz))]) hx hb dX5_lays_153 hl (by decide) rfl (fun ls hl => ?_)
              refine lv_iinc (v := nI (kz + 1)) (lv' := [(6, .int (nI (kz + 1))), (5, .int (rsn (fK sx iz) (fL sx iz) num (sx 5) (kz + 1))), (8, .int 0), (7, .int ((mK (fK sx iz) (fL sx iz) num kz) + (mL (fK sx iz) (fL sx iz) num kz))), (3, .int (lrest num (kz + 1))), (4, .int (lcar (fK sx iz) (fL sx iz) num (kz + 1))), (0, .ref (ad n)), (1, .int (nI iz)), (2, .int num)]) hx hb dX5_lays_155 hl (k := 8) rfl (z_inc _) (by decide) rfl (fun ls hl => ?_)
              refine lv_goto (tgt := 25) hx hb dX5_lays_158 (by decide) ?_
              exact ih_25 (kz + 1) hk2 (by omega) _ _ _ _ hP hS hM hFr (lv_sub hl [6, 7, 8, 4, 5, 1, 0] rfl)
          · refine lv_iconst (v := 1) hx hb dX5_lays_130 (by decide) ?_
            refine lv_goto (tgt := 135) hx hb dX5_lays_131 (by decide) ?_
            refine lv_istore (lv' := [(8, .int 1), (7, .int ((mK (fK sx iz) (fL sx iz) num kz) + (mL (fK sx iz) (fL sx iz) num kz))), (3, .int (lrest num (kz + 1))), (4, .int (lcar (fK sx iz) (fL sx iz) num (kz + 1))), (0, .ref (ad n)), (1, .int (nI iz)), (2, .int num), (5, .int (rsn (fK sx iz) (fL sx iz) num (sx 5) kz)), (6, .int (nI kz))]) hx hb dX5_lays_135 hl (by decide) rfl (fun ls hl => ?_)
            refine lv_iload hx hb dX5_lays_137 (lv_at hl 1 rfl) ?_
            refine lv_if_le (tgt := 151) hx hb dX5_lays_139 (by decide) (fun c_139 => ?_) (fun c_139 => ?_)
            · refine lv_iload hx hb dX5_lays_151 (lv_at hl 7 rfl) ?_
              refine z_topi (y := rsn (fK sx iz) (fL sx iz) num (sx 5) (kz + 1)) (by first | exact (if_pos ⟨Int32.not_le.mp c_139, Int32.not_le.mp c_127⟩).symm | exact (if_neg (fun q => Int32.not_lt.mpr c_139 q.1)).symm | exact (if_neg (fun q => Int32.not_lt.mpr c_127 q.2)).symm) ?_
              refine lv_istore (lv' := [(5, .int (rsn (fK sx iz) (fL sx iz) num (sx 5) (kz + 1))), (8, .int 1), (7, .int ((mK (fK sx iz) (fL sx iz) num kz) + (mL (fK sx iz) (fL sx iz) num kz))), (3, .int (lrest num (kz + 1))), (4, .int (lcar (fK sx iz) (fL sx iz) num (kz + 1))), (0, .ref (ad n)), (1, .int (nI iz)), (2, .int num), (6, .int (nI kz))]) hx hb dX5_lays_153 hl (by decide) rfl (fun ls hl => ?_)
              refine lv_iinc (v := nI (kz + 1)) (lv' := [(6, .int (nI (kz + 1))), (5, .int (rsn (fK sx iz) (fL sx iz) num (sx 5) (kz + 1))), (8, .int 1), (7, .int ((mK (fK sx iz) (fL sx iz) num kz) + (mL (fK sx iz) (fL sx iz) num kz))), (3, .int (lrest num (kz + 1))), (4, .int (lcar (fK sx iz) (fL sx iz) num (kz + 1))), (0, .ref (ad n)), (1, .int (nI iz)), (2, .int num)]) hx hb dX5_lays_155 hl (k := 8) rfl (z_inc _) (by decide) rfl (fun ls hl => ?_)
              refine lv_goto (tgt := 25) hx hb dX5_lays_158 (by decide) ?_
              exact ih_25 (kz + 1) hk2 (by omega) _ _ _ _ hP hS hM hFr (lv_sub hl [6, 7, 8, 4, 5, 1, 0] rfl)
            · refine lv_iload hx hb dX5_lays_142 (lv_at hl 0 rfl) ?_
              refine lv_if_eq (tgt := 151) hx hb dX5_lays_144 (by decide) (fun c_144 => absurd c_144 (by decide)) (fun c_144 => ?_)
              refine lv_iconst (v := 2) hx hb dX5_lays_147 (by decide) ?_
              refine lv_goto (tgt := 153) hx hb dX5_lays_148 (by decide) ?_
              refine z_topi (y := rsn (fK sx iz) (fL sx iz) num (sx 5) (kz + 1)) (by first | exact (if_pos ⟨Int32.not_le.mp c_139, Int32.not_le.mp c_127⟩).symm | exact (if_neg (fun q => Int32.not_lt.mpr c_139 q.1)).symm | exact (if_neg (fun q => Int32.not_lt.mpr c_127 q.2)).symm) ?_
              refine lv_istore (lv' := [(5, .int (rsn (fK sx iz) (fL sx iz) num (sx 5) (kz + 1))), (8, .int 1), (7, .int ((mK (fK sx iz) (fL sx iz) num kz) + (mL (fK sx iz) (fL sx iz) num kz))), (3, .int (lrest num (kz + 1))), (4, .int (lcar (fK sx iz) (fL sx iz) num (kz + 1))), (0, .ref (ad n)), (1, .int (nI iz)), (2, .int num), (6, .int (nI kz))]) hx hb dX5_lays_153 hl (by decide) rfl (fun ls hl => ?_)
              refine lv_iinc (v := nI (kz + 1)) (lv' := [(6, .int (nI (kz + 1))), (5, .int (rsn (fK sx iz) (fL sx iz) num (sx 5) (kz + 1))), (8, .int 1), (7, .int ((mK (fK sx iz) (fL sx iz) num kz) + (mL (fK sx iz) (fL sx iz) num kz))), (3, .int (lrest num (kz + 1))), (4, .int (lcar (fK sx iz) (fL sx iz) num (kz + 1))), (0, .ref (ad n)), (1, .int (nI iz)), (2, .int num)]) hx hb dX5_lays_155 hl (k := 8) rfl (z_inc _) (by decide) rfl (fun ls hl => ?_)
              refine lv_goto (tgt := 25) hx hb dX5_lays_158 (by decide) ?_
              exact ih_25 (kz + 1) hk2 (by omega) _ _ _ _ hP hS hM hFr (lv_sub hl [6, 7, 8, 4, 5, 1, 0] rfl)
    have hM : isM cy K ad g n sx az so ik sv tx (layK sx iz num kn 0) (layL sx iz num lo 0) th sm lz dg := by unfold layK layL; rw [cpF_0, cpF_0]; exact hM
    exact lp_25 _ 0 (Nat.zero_le _) (Nat.lt_succ_self _) _ _ _ _ hP hS hM hFr (lv_sub hl [4, 5, 6, 3, 2, 1, 0] rfl)
  · refine lv_iconst (v := 1) hx hb dX5_lays_12 (by decide) ?_
    exact z_iret C0 hP hS hr (⟨(if_neg c_9).symm, by unfold layA layB; rw [if_neg c_9, if_neg c_9]; exact hM, hFr⟩) dX5_lays_13
set_option maxHeartbeats 4000000 in
set_option maxRecDepth 100000 in
theorem m_X5_knits (l : Launch) {D : va_G} {cy : Nat → ClassId} {K : Nat} {ad : Nat → Nat} {g : Nat → va_E} (sz : Nat) {n : Nat} {sx az so ik sv tx kn lo : Nat → Int32} {th sm lz : Int32} {dg : Int64} {iz : Nat} (hM : isM cy K ad g n sx az so ik sv tx kn lo th sm lz dg) (hi : iz < 7) : Met l yX5_knits (zs yX5_knits cX5_knits 4 (some .int)) ({ frames := 1, cells := 0, slots := 0, locals := 21 } : Room) (va_Pc [.ref (ad n), .int (nI iz)] (zIn D cy K ad g sz)) (va_Qi (fun r g1 => r = sumN lo 6 ∧ isM cy K ad g1 n (knS sx iz kn lo) az so ik sv tx kn lo th sm lz dg ∧ zFr (zRg n (n + 9)) g g1) (zOut D cy K ad sz) (zA K ad sz)) 0 0 (zA K ad sz) := by
  refine z_met (by decide) (Nat.le_of_ble_eq_true rfl) (fun p e s m below meth c ls hsz hl C0 hr hnm hP hS => ?_)
  subst hsz
  have hl : lv_has ls 4 [(0, .ref (ad n)), (1, .int (nI iz))] := hl
  have hx := C0.1; have hb := C0.2.1; have hown := C0.2.2.2.1; have hts := C0.2.2.2.2.1
  have hFr : zFr (zRg n (n + 9)) g g := zFr.rf
  refine lv_iconst (v := 0) hx hb dX5_knits_0 (by decide) ?_
  refine lv_istore_n (lv' := [(2, .int 0), (0, .ref (ad n)), (1, .int (nI iz))]) hx hb dX5_knits_1 rfl hl (by decide) rfl (fun ls hl => ?_)
  refine lv_iconst (v := 0) hx hb dX5_knits_2 (by decide) ?_
  refine lv_istore_n (lv' := [(3, .int 0), (2, .int 0), (0, .ref (ad n)), (1, .int (nI iz))]) hx hb dX5_knits_3 rfl hl (by decide) rfl (fun ls hl => ?_)
  have lp_4 : ∀ (N : Nat) (kz : Nat) (hk : kz ≤ 6), 6 - kz < N → ∀ (g_1 : Nat → va_E) (H : Heap) (locs : List Loc) (ls : Array Slot), zP D K ad g_1 (zA K ad s.heap.size) H → va_S (zA K ad s.heap.size) s.heap H locs → isM cy K ad g_1 n (knG sx iz kn lo kz) az so ik sv tx kn lo th sm lz dg → zFr (zRg n (n + 9)) g g_1 → lv_has ls 4 [(0, .ref (ad n)), (1, .int (nI iz)), (2, .int (sumN lo kz)), (3, .int (nI kz))] → W p l e ({ frames := 1, cells := 0, slots := 0, locals := 21 } : Room) s m [.ref (ad n), .int (nI iz)].toArray below meth c H locs 0 0 (MQ below (va_Qi (fun r g1 => r = sumN lo 6 ∧ isM cy K ad g1 n (knS sx iz kn lo) az so ik sv tx kn lo th sm lz dg ∧ zFr (zRg n (n + 9)) g g1) (zOut D cy K ad s.heap.size) (zA K ad s.heap.size)) [.ref (ad n), .int (nI iz)].toArray s 0 0 (zA K ad s.heap.size)) (F0 m 4 ls []) := by
    intro N
    induction N with
    | zero => intro kz hk hN; exact absurd hN (Nat.not_lt_zero _)
    | succ N ih_4 =>
      intro kz hk hN g_1 H locs ls hP hS hM hFr hl
      refine lv_iload_n hx hb dX5_knits_4 rfl (lv_at hl 3 rfl) ?_
      refine lv_bipush (v := 6) hx hb dX5_knits_5 (by decide) ?_
      refine lv_icmp_ge (tgt := 84) hx hb dX5_knits_7 (by decide) (fun c_7 => ?_) (fun c_7 => ?_)
      · have hk2 : kz = 6 := by have := z_ge_t (b := 6) c_7 (by omega) (by omega); omega
        subst hk2
        refine lv_aload_n hx hb dX5_knits_84 rfl (lv_at hl 0 rfl) ?_
        refine z_get C0 hP hM.n0 hM.o fd_X5_7 rfl dX5_knits_85 ?_
        refine lv_iconst (v := 1) hx hb dX5_knits_88 (by decide) ?_
        refine lv_dup2_11 hx hb dX5_knits_89 rfl rfl ?_
        refine z_iald C0 hP hM.n1 hM.a_s (zIx_nI (j := 1) (by decide) (by decide)) dX5_knits_90 ?_
        refine lv_iload_n hx hb dX5_knits_91 rfl (lv_at hl 2 rfl) ?_
        refine lv_iadd hx hb dX5_knits_92 ?_
        refine zp_M_s C0 hP hS hM hFr (by first | rfl | (dsimp only [zOne, zRg, zCl]; omega) | (dsimp only; omega) | omega) (zIx_nI (j := 1) (by decide) (by decide)) dX5_knits_93 (fun g_2 H locs hP hS hM hFr hF1 => ?_)
        refine lv_iload_n hx hb dX5_knits_94 rfl (lv_at hl 2 rfl) ?_
        exact z_iret C0 hP hS hr (⟨rfl, by rw [knG_1 sx iz kn lo 6 (Nat.le_refl _)] at hM; exact hM, hFr⟩) dX5_knits_95
      · have hk2 : kz < 6 := z_ge_f (b := 6) c_7 (by omega) (by omega)
        refine lv_aload_n hx hb dX5_knits_10 rfl (lv_at hl 0 rfl) ?_
        refine z_get C0 hP hM.n0 hM.o fd_X5_7 rfl dX5_knits_11 ?_
        refine lv_iload_n hx hb dX5_knits_14 rfl (lv_at hl 1 rfl) ?_
        refine lv_bipush (v := 19) hx hb dX5_knits_15 (by decide) ?_
        refine lv_iload_n hx hb dX5_knits_17 rfl (lv_at hl 3 rfl) ?_
        refine lv_iadd hx hb dX5_knits_18 ?_
        refine z_topi (y := nI (19 + kz)) (nI_add 19 kz) ?_
        refine z_Si_eq (As := [.int (nI iz), .int (nI (19 + kz))]) (rest := [.ref (ad (n + 1))]) C0 hP hS hl.1 (m_X5_at l _ ) lk_X5_43 rfl rfl (Nat.le_of_ble_eq_true rfl) ⟨Nat.le_of_ble_eq_true rfl, Nat.le_of_ble_eq_true rfl⟩ rfl rfl ⟨Nat.zero_le _, Nat.zero_le _⟩ dX5_knits_19 (fun H locs hP hS => ?_)
        refine lv_dup2_11 hx hb dX5_knits_22 rfl rfl ?_
        refine z_iald C0 hP hM.n1 hM.a_s (zIx_nI (by omega) (by decide)) dX5_knits_23 ?_
        refine lv_aload_n hx hb dX5_knits_24 rfl (lv_at hl 0 rfl) ?_
        refine z_get C0 hP hM.n0 hM.o fd_X5_29 rfl dX5_knits_25 ?_
        refine lv_iload_n hx hb dX5_knits_28 rfl (lv_at hl 3 rfl) ?_
        refine z_iald C0 hP hM.n7 hM.a_kn (zIx_nI (by omega) (by decide)) dX5_knits_29 ?_
        refine lv_iadd hx hb dX5_knits_30 ?_
        refine zp_M_s C0 hP hS hM hFr (by first | rfl | (dsimp only [zOne, zRg, zCl]; omega) | (dsimp only; omega) | omega) (zIx_nI (by omega) (by decide)) dX5_knits_31 (fun g_3 H locs hP hS hM hFr hF1 => ?_)
        refine lv_aload_n hx hb dX5_knits_32 rfl (lv_at hl 0 rfl) ?_
        refine z_get C0 hP hM.n0 hM.o fd_X5_7 rfl dX5_knits_33 ?_
        refine lv_iload_n hx hb dX5_knits_36 rfl (lv_at hl 1 rfl) ?_
        refine lv_bipush (v := 25) hx hb dX5_knits_37 (by decide) ?_
        refine lv_iload_n hx hb dX5_knits_39 rfl (lv_at hl 3 rfl) ?_
        refine lv_iadd hx hb dX5_knits_40 ?_
        refine z_topi (y := nI (25 + kz)) (nI_add 25 kz) ?_
        refine z_Si_eq (As := [.int (nI iz), .int (nI (25 + kz))]) (rest := [.ref (ad (n + 1))]) C0 hP hS hl.1 (m_X5_at l _ ) lk_X5_43 rfl rfl (Nat.le_of_ble_eq_true rfl) ⟨Nat.le_of_ble_eq_true rfl, Nat.le_of_ble_eq_true rfl⟩ rfl rfl ⟨Nat.zero_le _, Nat.zero_le _⟩ dX5_knits_41 (fun H locs hP hS => ?_)
        refine lv_dup2_11 hx hb dX5_knits_44 rfl rfl ?_
        refine z_iald C0 hP hM.n1 hM.a_s (zIx_nI (by omega) (by decide)) dX5_knits_45 ?_
        refine lv_aload_n hx hb dX5_knits_46 rfl (lv_at hl 0 rfl) ?_
        refine z_get C0 hP hM.n0 hM.o fd_X5_32 rfl dX5_knits_47 ?_
        refine lv_iload_n hx hb dX5_knits_50 rfl (lv_at hl 3 rfl) ?_
        refine z_iald C0 hP hM.n8 hM.a_lo (zIx_nI (by omega) (by decide)) dX5_knits_51 ?_
        refine lv_iadd hx hb dX5_knits_52 ?_
        refine zp_M_s C0 hP hS hM hFr (by first | rfl | (dsimp only [zOne, zRg, zCl]; omega) | (dsimp only; omega) | omega) (zIx_nI (by omega) (by decide)) dX5_knits_53 (fun g_4 H locs hP hS hM hFr hF1 => ?_)
        refine lv_aload_n hx hb dX5_knits_54 rfl (lv_at hl 0 rfl) ?_
        refine z_get C0 hP hM.n0 hM.o fd_X5_7 rfl dX5_knits_55 ?_
        refine lv_iconst (v := 0) hx hb dX5_knits_58 (by decide) ?_
        refine lv_dup2_11 hx hb dX5_knits_59 rfl rfl ?_
        refine z_iald C0 hP hM.n1 hM.a_s (zIx_nI (j := 0) (by decide) (by decide)) dX5_knits_60 ?_
        refine lv_aload_n hx hb dX5_knits_61 rfl (lv_at hl 0 rfl) ?_
        refine z_get C0 hP hM.n0 hM.o fd_X5_29 rfl dX5_knits_62 ?_
        refine lv_iload_n hx hb dX5_knits_65 rfl (lv_at hl 3 rfl) ?_
        refine z_iald C0 hP hM.n7 hM.a_kn (zIx_nI (by omega) (by decide)) dX5_knits_66 ?_
        refine lv_iadd hx hb dX5_knits_67 ?_
        refine zp_M_s C0 hP hS hM hFr (by first | rfl | (dsimp only [zOne, zRg, zCl]; omega) | (dsimp only; omega) | omega) (zIx_nI (j := 0) (by decide) (by decide)) dX5_knits_68 (fun g_5 H locs hP hS hM hFr hF1 => ?_)
        rw [knG_up sx iz kn lo hk2] at hM
        refine lv_iload_n hx hb dX5_knits_69 rfl (lv_at hl 2 rfl) ?_
        refine lv_aload_n hx hb dX5_knits_70 rfl (lv_at hl 0 rfl) ?_
        refine z_get C0 hP hM.n0 hM.o fd_X5_32 rfl dX5_knits_71 ?_
        refine lv_iload_n hx hb dX5_knits_74 rfl (lv_at hl 3 rfl) ?_
        refine z_iald C0 hP hM.n8 hM.a_lo (zIx_nI (by omega) (by decide)) dX5_knits_75 ?_
        refine lv_iadd hx hb dX5_knits_76 ?_
        refine lv_istore_n (lv' := [(2, .int ((sumN lo kz) + (lo kz))), (0, .ref (ad n)), (1, .int (nI iz)), (3, .int (nI kz))]) hx hb dX5_knits_77 rfl hl (by decide) rfl (fun ls hl => ?_)
        refine lv_iinc (v := nI (kz + 1)) (lv' := [(3, .int (nI (kz + 1))), (2, .int ((sumN lo kz) + (lo kz))), (0, .ref (ad n)), (1, .int (nI iz))]) hx hb dX5_knits_78 hl (k := 3) rfl (z_inc _) (by decide) rfl (fun ls hl => ?_)
        refine lv_goto (tgt := 4) hx hb dX5_knits_81 (by decide) ?_
        exact ih_4 (kz + 1) hk2 (by omega) _ _ _ _ hP hS hM hFr (lv_sub hl [2, 3, 1, 0] rfl)
  have hM : isM cy K ad g n (knG sx iz kn lo 0) az so ik sv tx kn lo th sm lz dg := by rw [knG_0]; exact hM
  exact lp_4 _ 0 (Nat.zero_le _) (Nat.lt_succ_self _) _ _ _ _ hP hS hM hFr (lv_sub hl [2, 3, 1, 0] rfl)
set_option maxHeartbeats 4000000 in
set_option maxRecDepth 100000 in
theorem m_X5_reasonFor (l : Launch) {D : va_G} {cy : Nat → ClassId} {K : Nat} {ad : Nat → Nat} {g : Nat → va_E} (sz : Nat) {n : Nat} {sx az so ik sv tx kn lo : Nat → Int32} {th sm lz : Int32} {dg : Int64} {iz : Nat} {num : Int32} (hM : isM cy K ad g n sx az so ik sv tx kn lo th sm lz dg) (hi : iz < 7) (hpc : pcOK sx) : Met l yX5_reasonFor (zs yX5_reasonFor cX5_reasonFor 3 (some .int)) ({ frames := 5, cells := 0, slots := 0, locals := 116 } : Room) (va_Pc [.ref (ad n), .int (nI iz), .int num] (zIn D cy K ad g sz)) (va_Qi (fun r g1 => r = cRop sx iz num ∧ isM cy K ad g1 n sx az so ik sv tx (if cm sx iz < 16 then layA sx iz num kn else kn) (if cm sx iz < 16 then layB sx iz num lo else lo) th sm lz dg ∧ zFr (zRg n (n + 9)) g g1) (zOut D cy K ad sz) (zA K ad sz)) 0 0 (zA K ad sz) := by
  refine z_met (by decide) (Nat.le_of_ble_eq_true rfl) (fun p e s m below meth c ls hsz hl C0 hr hnm hP hS => ?_)
  subst hsz
  have hl : lv_has ls 3 [(0, .ref (ad n)), (1, .int (nI iz)), (2, .int num)] := hl
  have hx := C0.1; have hb := C0.2.1; have hown := C0.2.2.2.1; have hts := C0.2.2.2.2.1
  have hFr : zFr (zRg n (n + 9)) g g := zFr.rf
  have hcm := (hpc iz hi).2
  refine lv_aload_n hx hb dX5_reasonFor_0 rfl (lv_at hl 0 rfl) ?_
  refine lv_iload_n hx hb dX5_reasonFor_1 rfl (lv_at hl 1 rfl) ?_
  refine lv_iconst (v := (nI 1)) hx hb dX5_reasonFor_2 (by decide) ?_
  refine z_Vi_eq (As := [.int (nI iz), .int (nI 1)]) (rest := []) C0 hP hS hl.1 (m_X5_of l _ hM hi (by omega)) lk_X5_50 hM.n0 hM.o rfl rfl (Nat.le_of_ble_eq_true rfl) ⟨Nat.le_of_ble_eq_true rfl, Nat.le_of_ble_eq_true rfl⟩ rfl rfl ⟨Nat.zero_le _, Nat.zero_le _⟩ dX5_reasonFor_3 (fun H locs hP hS => ?_)
  refine z_topi (y := nI (cm sx iz)) ((hpc iz hi).1) ?_
  refine lv_bipush (v := 16) hx hb dX5_reasonFor_6 (by decide) ?_
  refine lv_icmp_ne (tgt := 15) hx hb dX5_reasonFor_8 (by decide) (fun c_8 => ?_) (fun c_8 => ?_)
  · have hm : cm sx iz < 16 := by have : cm sx iz ≠ 16 := fun q => c_8 (congrArg nI q); omega
    refine lv_aload_n hx hb dX5_reasonFor_15 rfl (lv_at hl 0 rfl) ?_
    refine lv_iload_n hx hb dX5_reasonFor_16 rfl (lv_at hl 1 rfl) ?_
    refine lv_iload_n hx hb dX5_reasonFor_17 rfl (lv_at hl 2 rfl) ?_
    refine z_Vi_mo (As := [.int (nI iz), .int num]) (rest := []) C0 hP hS hl.1 (m_X5_lays l _ hM hi) lk_X5_67 hM.n0 hM.o rfl rfl (Nat.le_of_ble_eq_true rfl) ⟨Nat.le_of_ble_eq_true rfl, Nat.le_of_ble_eq_true rfl⟩ rfl rfl ⟨Nat.zero_le _, Nat.zero_le _⟩ dX5_reasonFor_18 (fun r_18 g_1 H locs hP hS hp => ?_)
    obtain ⟨hr_18, hM, hF1⟩ := hp
    subst hr_18
    have hFr := hFr.tr (hF1.mono (by intro x9 hx9; first | (dsimp only [zOne, zRg, zCl] at hx9 ⊢; omega) | (dsimp only at hx9 ⊢; omega) | omega))
    exact z_iret C0 hP hS hr (⟨(if_pos hm).symm, by rw [if_pos hm, if_pos hm]; exact hM, hFr⟩) dX5_reasonFor_21
  · have hm : ¬ cm sx iz < 16 := by have := (nI_eq (b := 16) (by omega) (by decide)).mp c_8; omega
    refine lv_iconst (v := 3) hx hb dX5_reasonFor_11 (by decide) ?_
    refine lv_goto (tgt := 21) hx hb dX5_reasonFor_12 (by decide) ?_
    exact z_iret C0 hP hS hr (⟨(if_neg hm).symm, by rw [if_neg hm, if_neg hm]; exact hM, hFr⟩) dX5_reasonFor_21
