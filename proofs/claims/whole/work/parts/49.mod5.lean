set_option maxHeartbeats 4000000 in
set_option maxRecDepth 100000 in
theorem m_X5_keep (l : Launch) {D : va_G} {cy : Nat → ClassId} {K : Nat} {ad : Nat → Nat} {g : Nat → va_E} (sz : Nat) {n : Nat} {sx az so ik sv tx kn lo : Nat → Int32} {th sm lz : Int32} {dg : Int64} {jz : Nat} (hM : isM cy K ad g n sx az so ik sv tx kn lo th sm lz dg) (hj : jz < 2) : Met l yX5_keep (zs yX5_keep cX5_keep 3 (some .int)) ({ frames := 4, cells := 0, slots := 0, locals := 88 } : Room) (va_Pc [.ref (ad n), .int (nI jz)] (zIn D cy K ad g sz)) (va_Qi (fun r g1 => r = sumN (cTies sx) 7 ∧ isM cy K ad g1 n sx az (wrF so jz sx 223) (upd ik jz 1) sv tx kn lo 0 sm lz dg ∧ zFr (zRg n (n + 9)) g g1) (zOut D cy K ad sz) (zA K ad sz)) 0 0 (zA K ad sz) := by
  refine z_met (by decide) (Nat.le_of_ble_eq_true rfl) (fun p e s m below meth c ls hsz hl C0 hr hnm hP hS => ?_)
  subst hsz
  have hl : lv_has ls 3 [(0, .ref (ad n)), (1, .int (nI jz))] := hl
  have hx := C0.1; have hb := C0.2.1; have hown := C0.2.2.2.1; have hts := C0.2.2.2.2.1
  have hFr : zFr (zRg n (n + 9)) g g := zFr.rf
  refine lv_aload_n hx hb dX5_keep_0 rfl (lv_at hl 0 rfl) ?_
  refine lv_iload_n hx hb dX5_keep_1 rfl (lv_at hl 1 rfl) ?_
  refine lv_iconst (v := 0) hx hb dX5_keep_2 (by decide) ?_
  refine lv_iconst (v := 1) hx hb dX5_keep_3 (by decide) ?_
  refine z_Si_eq (As := [.int (nI jz), .int 0, .int 1]) (rest := [.ref (ad n)]) C0 hP hS hl.1 (m_X5_in l _ ) lk_X5_39 rfl rfl (Nat.le_of_ble_eq_true rfl) ⟨Nat.le_of_ble_eq_true rfl, Nat.le_of_ble_eq_true rfl⟩ rfl rfl ⟨Nat.zero_le _, Nat.zero_le _⟩ dX5_keep_4 (fun H locs hP hS => ?_)
  refine z_topi (y := 1) (zc1' (m := 1) (by omega) (by decide)) ?_
  refine lv_if_eq (tgt := 14) hx hb dX5_keep_7 (by decide) (fun c_7 => absurd c_7 (by decide)) (fun c_7 => ?_)
  refine lv_iconst (v := 0) hx hb dX5_keep_10 (by decide) ?_
  refine lv_goto (tgt := 15) hx hb dX5_keep_11 (by decide) ?_
  refine z_Vi_mo (As := [.int 0]) (rest := []) C0 hP hS hl.1 (m_X5_holds l _ hM) lk_X5_86 hM.n0 hM.o rfl rfl (Nat.le_of_ble_eq_true rfl) ⟨Nat.le_of_ble_eq_true rfl, Nat.le_of_ble_eq_true rfl⟩ rfl rfl ⟨Nat.zero_le _, Nat.zero_le _⟩ dX5_keep_15 (fun r_15 g_1 H locs hP hS hp => ?_)
  obtain ⟨hr_15, hM, hF1⟩ := hp
  subst hr_15
  have hFr := hFr.tr (hF1.mono (by intro x9 hx9; first | (dsimp only [zOne, zRg, zCl] at hx9 ⊢; omega) | (dsimp only at hx9 ⊢; omega) | omega))
  refine z_topi (y := 1) (if_pos rfl) ?_
  refine lv_if_ne (tgt := 23) hx hb dX5_keep_18 (by decide) (fun c_18 => ?_) (fun c_18 => absurd c_18 (by decide))
  have hM : isM cy K ad g_1 n sx az (wrF so jz sx 0) ik sv tx kn lo 0 sm lz dg := by rw [wrF_0]; exact hM
  refine lv_iconst (v := 0) hx hb dX5_keep_23 (by decide) ?_
  refine lv_istore_n (lv' := [(2, .int 0), (0, .ref (ad n)), (1, .int (nI jz))]) hx hb dX5_keep_24 rfl hl (by decide) rfl (fun ls hl => ?_)
  have lp_25 : ∀ (N : Nat) (kz : Nat) (hk : kz ≤ 223), 223 - kz < N → ∀ (g_2 : Nat → va_E) (H : Heap) (locs : List Loc) (ls : Array Slot), zP D K ad g_2 (zA K ad s.heap.size) H → va_S (zA K ad s.heap.size) s.heap H locs → isM cy K ad g_2 n sx az ((wrF so jz sx kz)) ik sv tx kn lo 0 sm lz dg → zFr (zRg n (n + 9)) g g_2 → lv_has ls 3 [(0, .ref (ad n)), (1, .int (nI jz)), (2, .int (nI kz))] → W p l e ({ frames := 4, cells := 0, slots := 0, locals := 88 } : Room) s m [.ref (ad n), .int (nI jz)].toArray below meth c H locs 0 0 (MQ below (va_Qi (fun r g1 => r = sumN (cTies sx) 7 ∧ isM cy K ad g1 n sx az (wrF so jz sx 223) (upd ik jz 1) sv tx kn lo 0 sm lz dg ∧ zFr (zRg n (n + 9)) g g1) (zOut D cy K ad s.heap.size) (zA K ad s.heap.size)) [.ref (ad n), .int (nI jz)].toArray s 0 0 (zA K ad s.heap.size)) (F0 m 25 ls []) := by
    intro N
    induction N with
    | zero => intro kz hk hN; exact absurd hN (Nat.not_lt_zero _)
    | succ N ih_25 =>
      intro kz hk hN g_2 H locs ls hP hS hM hFr hl
      refine lv_iload_n hx hb dX5_keep_25 rfl (lv_at hl 2 rfl) ?_
      refine lv_sipush (v := 223) hx hb dX5_keep_26 (by decide) ?_
      refine lv_icmp_ge (tgt := 56) hx hb dX5_keep_29 (by decide) (fun c_29 => ?_) (fun c_29 => ?_)
      · have hk2 : kz = 223 := by have := z_ge_t (b := 223) c_29 (by omega) (by omega); omega
        subst hk2
        refine lv_aload_n hx hb dX5_keep_56 rfl (lv_at hl 0 rfl) ?_
        refine z_get C0 hP hM.n0 hM.o fd_X5_19 rfl dX5_keep_57 ?_
        refine lv_iload_n hx hb dX5_keep_60 rfl (lv_at hl 1 rfl) ?_
        refine lv_iconst (v := 1) hx hb dX5_keep_61 (by decide) ?_
        refine zp_M_ik C0 hP hS hM hFr (by first | rfl | (dsimp only [zOne, zRg, zCl]; omega) | (dsimp only; omega) | omega) (zIx_nI (by omega) (by decide)) rfl dX5_keep_62 (fun g_3 H locs hP hS hM hFr hF1 => ?_)
        refine lv_aload_n hx hb dX5_keep_63 rfl (lv_at hl 0 rfl) ?_
        refine z_Vi_eq (As := []) (rest := []) C0 hP hS hl.1 (m_X5_allTies l _ hM) lk_X5_127 hM.n0 hM.o rfl rfl (Nat.le_of_ble_eq_true rfl) ⟨Nat.le_of_ble_eq_true rfl, Nat.le_of_ble_eq_true rfl⟩ rfl rfl ⟨Nat.zero_le _, Nat.zero_le _⟩ dX5_keep_64 (fun H locs hP hS => ?_)
        exact z_iret C0 hP hS hr (⟨rfl, hM, hFr⟩) dX5_keep_67
      · have hk2 : kz < 223 := z_ge_f (b := 223) c_29 (by omega) (by omega)
        refine lv_aload_n hx hb dX5_keep_32 rfl (lv_at hl 0 rfl) ?_
        refine z_get C0 hP hM.n0 hM.o fd_X5_16 rfl dX5_keep_33 ?_
        refine lv_sipush (v := 223) hx hb dX5_keep_36 (by decide) ?_
        refine lv_iload_n hx hb dX5_keep_39 rfl (lv_at hl 1 rfl) ?_
        refine lv_imul hx hb dX5_keep_40 ?_
        refine lv_iload_n hx hb dX5_keep_41 rfl (lv_at hl 2 rfl) ?_
        refine lv_iadd hx hb dX5_keep_42 ?_
        refine z_topi (y := nI (223 * jz + kz)) (zMu _ _) ?_
        refine lv_aload_n hx hb dX5_keep_43 rfl (lv_at hl 0 rfl) ?_
        refine z_get C0 hP hM.n0 hM.o fd_X5_7 rfl dX5_keep_44 ?_
        refine lv_iload_n hx hb dX5_keep_47 rfl (lv_at hl 2 rfl) ?_
        refine z_iald C0 hP hM.n1 hM.a_s (zIx_nI (by omega) (by decide)) dX5_keep_48 ?_
        refine zp_M_so C0 hP hS hM hFr (by first | rfl | (dsimp only [zOne, zRg, zCl]; omega) | (dsimp only; omega) | omega) (zIx_nI (by omega) (by decide)) dX5_keep_49 (fun g_4 H locs hP hS hM hFr hF1 => ?_)
        rw [wrF_up] at hM
        refine lv_iinc (v := nI (kz + 1)) (lv' := [(2, .int (nI (kz + 1))), (0, .ref (ad n)), (1, .int (nI jz))]) hx hb dX5_keep_50 hl (k := 2) rfl (z_inc _) (by decide) rfl (fun ls hl => ?_)
        refine lv_goto (tgt := 25) hx hb dX5_keep_53 (by decide) ?_
        exact ih_25 (kz + 1) hk2 (by omega) _ _ _ _ hP hS hM hFr (lv_sub hl [1, 2, 0] rfl)
  exact lp_25 _ 0 (Nat.zero_le _) (Nat.lt_succ_self _) _ _ _ _ hP hS hM hFr (lv_sub hl [1, 2, 0] rfl)
set_option maxHeartbeats 4000000 in
set_option maxRecDepth 100000 in
theorem m_X5_goBack (l : Launch) {D : va_G} {cy : Nat → ClassId} {K : Nat} {ad : Nat → Nat} {g : Nat → va_E} (sz : Nat) {n : Nat} {sx az so ik sv tx kn lo : Nat → Int32} {th lz : Int32} {dg : Int64} {mz : Nat} {jz : Nat} (hM : isM cy K ad g n sx az so ik sv tx kn lo th ((nI mz)) lz dg) (hmz : mz ≤ 6) (hj : jz < 2) (hik : ik jz = 1) : Met l yX5_goBack (zs yX5_goBack cX5_goBack 4 (some .int)) ({ frames := 4, cells := 0, slots := 0, locals := 88 } : Room) (va_Pc [.ref (ad n), .int (nI jz)] (zIn D cy K ad g sz)) (va_Qi (fun r g1 => r = sumN (cTies (slG so jz 223 sx)) 7 ∧ isM cy K ad g1 n (slG so jz 223 sx) az so ik (svS sv mz sx) tx kn lo 0 (nI (svM mz + 1)) lz dg ∧ zFr (zRg n (n + 9)) g g1) (zOut D cy K ad sz) (zA K ad sz)) 0 0 (zA K ad sz) := by
  refine z_met (by decide) (Nat.le_of_ble_eq_true rfl) (fun p e s m below meth c ls hsz hl C0 hr hnm hP hS => ?_)
  subst hsz
  have hl : lv_has ls 4 [(0, .ref (ad n)), (1, .int (nI jz))] := hl
  have hx := C0.1; have hb := C0.2.1; have hown := C0.2.2.2.1; have hts := C0.2.2.2.2.1
  have hFr : zFr (zRg n (n + 9)) g g := zFr.rf
  refine lv_iload_n hx hb dX5_goBack_0 rfl (lv_at hl 1 rfl) ?_
  refine lv_iconst (v := 0) hx hb dX5_goBack_1 (by decide) ?_
  refine lv_iconst (v := 1) hx hb dX5_goBack_2 (by decide) ?_
  refine z_Si_eq (As := [.int (nI jz), .int 0, .int 1]) (rest := []) C0 hP hS hl.1 (m_X5_in l _ ) lk_X5_39 rfl rfl (Nat.le_of_ble_eq_true rfl) ⟨Nat.le_of_ble_eq_true rfl, Nat.le_of_ble_eq_true rfl⟩ rfl rfl ⟨Nat.zero_le _, Nat.zero_le _⟩ dX5_goBack_3 (fun H locs hP hS => ?_)
  refine z_topi (y := 1) (zc1' (m := 1) (by omega) (by decide)) ?_
  refine lv_istore_n (lv' := [(2, .int 1), (0, .ref (ad n)), (1, .int (nI jz))]) hx hb dX5_goBack_6 rfl hl (by decide) rfl (fun ls hl => ?_)
  refine lv_aload_n hx hb dX5_goBack_7 rfl (lv_at hl 1 rfl) ?_
  refine lv_iload_n hx hb dX5_goBack_8 rfl (lv_at hl 0 rfl) ?_
  refine lv_if_ne (tgt := 16) hx hb dX5_goBack_9 (by decide) (fun c_9 => ?_) (fun c_9 => absurd c_9 (by decide))
  refine lv_aload_n hx hb dX5_goBack_16 rfl (lv_at hl 1 rfl) ?_
  refine z_get C0 hP hM.n0 hM.o fd_X5_19 rfl dX5_goBack_17 ?_
  refine lv_iload_n hx hb dX5_goBack_20 rfl (lv_at hl 2 rfl) ?_
  refine z_zald C0 hP hM.n4 hM.a_ik (zIx_nI (by omega) (by decide)) dX5_goBack_21 ?_
  refine z_topi (y := 1) hik ?_
  refine lv_if_ne (tgt := 29) hx hb dX5_goBack_22 (by decide) (fun c_22 => ?_) (fun c_22 => absurd c_22 (by decide))
  refine lv_iconst (v := 0) hx hb dX5_goBack_29 (by decide) ?_
  refine z_Vi_mo (As := [.int 0]) (rest := []) C0 hP hS hl.1 (m_X5_holds l _ hM) lk_X5_86 hM.n0 hM.o rfl rfl (Nat.le_of_ble_eq_true rfl) ⟨Nat.le_of_ble_eq_true rfl, Nat.le_of_ble_eq_true rfl⟩ rfl rfl ⟨Nat.zero_le _, Nat.zero_le _⟩ dX5_goBack_30 (fun r_30 g_1 H locs hP hS hp => ?_)
  obtain ⟨hr_30, hM, hF1⟩ := hp
  subst hr_30
  have hFr := hFr.tr (hF1.mono (by intro x9 hx9; first | (dsimp only [zOne, zRg, zCl] at hx9 ⊢; omega) | (dsimp only at hx9 ⊢; omega) | omega))
  refine z_topi (y := 1) (if_pos rfl) ?_
  refine lv_if_ne (tgt := 38) hx hb dX5_goBack_33 (by decide) (fun c_33 => ?_) (fun c_33 => absurd c_33 (by decide))
  refine lv_aload_n hx hb dX5_goBack_38 rfl (lv_at hl 1 rfl) ?_
  refine z_Vv_mo (As := []) (rest := []) C0 hP hS hl.1 (m_X5_save l _ hM hmz) lk_X5_89 hM.n0 hM.o rfl rfl (Nat.le_of_ble_eq_true rfl) ⟨Nat.le_of_ble_eq_true rfl, Nat.le_of_ble_eq_true rfl⟩ rfl rfl ⟨Nat.zero_le _, Nat.zero_le _⟩ dX5_goBack_39 (fun g_2 H locs hP hS hp => ?_)
  obtain ⟨hM, hF1⟩ := hp
  have hFr := hFr.tr (hF1.mono (by intro x9 hx9; first | (dsimp only [zOne, zRg, zCl] at hx9 ⊢; omega) | (dsimp only at hx9 ⊢; omega) | omega))
  have hM : isM cy K ad g_2 n (slG so jz 0 sx) az so ik (svS sv mz sx) tx kn lo 0 (nI (svM mz + 1)) lz dg := by rw [slG_0]; exact hM
  refine lv_iconst (v := 0) hx hb dX5_goBack_42 (by decide) ?_
  refine lv_istore_n (lv' := [(3, .int 0), (2, .int 1), (0, .ref (ad n)), (1, .int (nI jz))]) hx hb dX5_goBack_43 rfl hl (by decide) rfl (fun ls hl => ?_)
  have lp_44 : ∀ (N : Nat) (kz : Nat) (hk : kz ≤ 223), 223 - kz < N → ∀ (g_3 : Nat → va_E) (H : Heap) (locs : List Loc) (ls : Array Slot), zP D K ad g_3 (zA K ad s.heap.size) H → va_S (zA K ad s.heap.size) s.heap H locs → isM cy K ad g_3 n ((slG so jz kz sx)) az so ik ((svS sv mz sx)) tx kn lo 0 ((nI (svM mz + 1))) lz dg → zFr (zRg n (n + 9)) g g_3 → lv_has ls 4 [(0, .ref (ad n)), (1, .int (nI jz)), (3, .int (nI kz))] → W p l e ({ frames := 4, cells := 0, slots := 0, locals := 88 } : Room) s m [.ref (ad n), .int (nI jz)].toArray below meth c H locs 0 0 (MQ below (va_Qi (fun r g1 => r = sumN (cTies (slG so jz 223 sx)) 7 ∧ isM cy K ad g1 n (slG so jz 223 sx) az so ik (svS sv mz sx) tx kn lo 0 (nI (svM mz + 1)) lz dg ∧ zFr (zRg n (n + 9)) g g1) (zOut D cy K ad s.heap.size) (zA K ad s.heap.size)) [.ref (ad n), .int (nI jz)].toArray s 0 0 (zA K ad s.heap.size)) (F0 m 44 ls []) := by
    intro N
    induction N with
    | zero => intro kz hk hN; exact absurd hN (Nat.not_lt_zero _)
    | succ N ih_44 =>
      intro kz hk hN g_3 H locs ls hP hS hM hFr hl
      refine lv_iload_n hx hb dX5_goBack_44 rfl (lv_at hl 2 rfl) ?_
      refine lv_sipush (v := 223) hx hb dX5_goBack_45 (by decide) ?_
      refine lv_icmp_ge (tgt := 75) hx hb dX5_goBack_48 (by decide) (fun c_48 => ?_) (fun c_48 => ?_)
      · have hk2 : kz = 223 := by have := z_ge_t (b := 223) c_48 (by omega) (by omega); omega
        subst hk2
        refine lv_aload_n hx hb dX5_goBack_75 rfl (lv_at hl 0 rfl) ?_
        refine z_Vi_eq (As := []) (rest := []) C0 hP hS hl.1 (m_X5_allTies l _ hM) lk_X5_127 hM.n0 hM.o rfl rfl (Nat.le_of_ble_eq_true rfl) ⟨Nat.le_of_ble_eq_true rfl, Nat.le_of_ble_eq_true rfl⟩ rfl rfl ⟨Nat.zero_le _, Nat.zero_le _⟩ dX5_goBack_76 (fun H locs hP hS => ?_)
        exact z_iret C0 hP hS hr (⟨rfl, hM, hFr⟩) dX5_goBack_79
      · have hk2 : kz < 223 := z_ge_f (b := 223) c_48 (by omega) (by omega)
        refine lv_aload_n hx hb dX5_goBack_51 rfl (lv_at hl 0 rfl) ?_
        refine z_get C0 hP hM.n0 hM.o fd_X5_7 rfl dX5_goBack_52 ?_
        refine lv_iload_n hx hb dX5_goBack_55 rfl (lv_at hl 2 rfl) ?_
        refine lv_aload_n hx hb dX5_goBack_56 rfl (lv_at hl 0 rfl) ?_
        refine z_get C0 hP hM.n0 hM.o fd_X5_16 rfl dX5_goBack_57 ?_
        refine lv_sipush (v := 223) hx hb dX5_goBack_60 (by decide) ?_
        refine lv_iload_n hx hb dX5_goBack_63 rfl (lv_at hl 1 rfl) ?_
        refine lv_imul hx hb dX5_goBack_64 ?_
        refine lv_iload_n hx hb dX5_goBack_65 rfl (lv_at hl 2 rfl) ?_
        refine lv_iadd hx hb dX5_goBack_66 ?_
        refine z_topi (y := nI (223 * jz + kz)) (zMu _ _) ?_
        refine z_iald C0 hP hM.n3 hM.a_so (zIx_nI (by omega) (by decide)) dX5_goBack_67 ?_
        refine zp_M_s C0 hP hS hM hFr (by first | rfl | (dsimp only [zOne, zRg, zCl]; omega) | (dsimp only; omega) | omega) (zIx_nI (by omega) (by decide)) dX5_goBack_68 (fun g_4 H locs hP hS hM hFr hF1 => ?_)
        rw [slG_up] at hM
        refine lv_iinc (v := nI (kz + 1)) (lv' := [(3, .int (nI (kz + 1))), (0, .ref (ad n)), (1, .int (nI jz))]) hx hb dX5_goBack_69 hl (k := 2) rfl (z_inc _) (by decide) rfl (fun ls hl => ?_)
        refine lv_goto (tgt := 44) hx hb dX5_goBack_72 (by decide) ?_
        exact ih_44 (kz + 1) hk2 (by omega) _ _ _ _ hP hS hM hFr (lv_sub hl [1, 2, 0] rfl)
  exact lp_44 _ 0 (Nat.zero_le _) (Nat.lt_succ_self _) _ _ _ _ hP hS hM hFr (lv_sub hl [2, 3, 0] rfl)
set_option maxHeartbeats 4000000 in
set_option maxRecDepth 100000 in
theorem m_X5_undo (l : Launch) {D : va_G} {cy : Nat → ClassId} {K : Nat} {ad : Nat → Nat} {g : Nat → va_E} (sz : Nat) {n : Nat} {sx az so ik sv tx kn lo : Nat → Int32} {th lz : Int32} {dg : Int64} {mz : Nat} (hM : isM cy K ad g n sx az so ik sv tx kn lo th ((nI (mz + 1))) lz dg) (hmz : mz < 6) : Met l yX5_undo (zs yX5_undo cX5_undo 2 (some .int)) ({ frames := 1, cells := 0, slots := 0, locals := 21 } : Room) (va_Pc [.ref (ad n)] (zIn D cy K ad g sz)) (va_Qi (fun r g1 => r = nI mz ∧ isM cy K ad g1 n (slG sv mz 223 sx) az so ik sv tx kn lo 0 (nI mz) lz dg ∧ zFr (zRg n (n + 9)) g g1) (zOut D cy K ad sz) (zA K ad sz)) 0 0 (zA K ad sz) := by
  refine z_met (by decide) (Nat.le_of_ble_eq_true rfl) (fun p e s m below meth c ls hsz hl C0 hr hnm hP hS => ?_)
  subst hsz
  have hl : lv_has ls 2 [(0, .ref (ad n))] := hl
  have hx := C0.1; have hb := C0.2.1; have hown := C0.2.2.2.1; have hts := C0.2.2.2.2.1
  have hFr : zFr (zRg n (n + 9)) g g := zFr.rf
  refine lv_aload_n hx hb dX5_undo_0 rfl (lv_at hl 0 rfl) ?_
  refine lv_aload_n hx hb dX5_undo_1 rfl (lv_at hl 0 rfl) ?_
  refine z_get C0 hP hM.n0 hM.o fd_X5_47 rfl dX5_undo_2 ?_
  refine lv_if_le (tgt := 12) hx hb dX5_undo_5 (by decide) (fun c_5 => absurd c_5 (nI_nle (by omega) (by omega))) (fun c_5 => ?_)
  refine lv_iconst (v := 0) hx hb dX5_undo_8 (by decide) ?_
  refine lv_goto (tgt := 13) hx hb dX5_undo_9 (by decide) ?_
  refine z_Vi_mo (As := [.int 0]) (rest := []) C0 hP hS hl.1 (m_X5_holds l _ hM) lk_X5_86 hM.n0 hM.o rfl rfl (Nat.le_of_ble_eq_true rfl) ⟨Nat.le_of_ble_eq_true rfl, Nat.le_of_ble_eq_true rfl⟩ rfl rfl ⟨Nat.zero_le _, Nat.zero_le _⟩ dX5_undo_13 (fun r_13 g_1 H locs hP hS hp => ?_)
  obtain ⟨hr_13, hM, hF1⟩ := hp
  subst hr_13
  have hFr := hFr.tr (hF1.mono (by intro x9 hx9; first | (dsimp only [zOne, zRg, zCl] at hx9 ⊢; omega) | (dsimp only at hx9 ⊢; omega) | omega))
  refine z_topi (y := 1) (if_pos rfl) ?_
  refine lv_if_ne (tgt := 21) hx hb dX5_undo_16 (by decide) (fun c_16 => ?_) (fun c_16 => absurd c_16 (by decide))
  refine lv_aload_n hx hb dX5_undo_21 rfl (lv_at hl 0 rfl) ?_
  refine lv_dup hx hb dX5_undo_22 rfl ?_
  refine z_get C0 hP hM.n0 hM.o fd_X5_47 rfl dX5_undo_23 ?_
  refine lv_iconst (v := 1) hx hb dX5_undo_26 (by decide) ?_
  refine lv_isub hx hb dX5_undo_27 ?_
  refine z_topi (y := nI mz) (nI_pred _) ?_
  refine zp_M_sm C0 hP hS hM hFr (by first | rfl | (dsimp only [zOne, zRg, zCl]; omega) | (dsimp only; omega) | omega) fp_X5_47 dX5_undo_28 (fun g_2 H locs hP hS hM hFr hF1 => ?_)
  have hM : isM cy K ad g_2 n (slG sv mz 0 sx) az so ik sv tx kn lo 0 (nI mz) lz dg := by rw [slG_0]; exact hM
  refine lv_iconst (v := 0) hx hb dX5_undo_31 (by decide) ?_
  refine lv_istore_n (lv' := [(1, .int 0), (0, .ref (ad n))]) hx hb dX5_undo_32 rfl hl (by decide) rfl (fun ls hl => ?_)
  have lp_33 : ∀ (N : Nat) (kz : Nat) (hk : kz ≤ 223), 223 - kz < N → ∀ (g_3 : Nat → va_E) (H : Heap) (locs : List Loc) (ls : Array Slot), zP D K ad g_3 (zA K ad s.heap.size) H → va_S (zA K ad s.heap.size) s.heap H locs → isM cy K ad g_3 n ((slG sv mz kz sx)) az so ik sv tx kn lo 0 (nI mz) lz dg → zFr (zRg n (n + 9)) g g_3 → lv_has ls 2 [(0, .ref (ad n)), (1, .int (nI kz))] → W p l e ({ frames := 1, cells := 0, slots := 0, locals := 21 } : Room) s m [.ref (ad n)].toArray below meth c H locs 0 0 (MQ below (va_Qi (fun r g1 => r = nI mz ∧ isM cy K ad g1 n (slG sv mz 223 sx) az so ik sv tx kn lo 0 (nI mz) lz dg ∧ zFr (zRg n (n + 9)) g g1) (zOut D cy K ad s.heap.size) (zA K ad s.heap.size)) [.ref (ad n)].toArray s 0 0 (zA K ad s.heap.size)) (F0 m 33 ls []) := by
    intro N
    induction N with
    | zero => intro kz hk hN; exact absurd hN (Nat.not_lt_zero _)
    | succ N ih_33 =>
      intro kz hk hN g_3 H locs ls hP hS hM hFr hl
      refine lv_iload_n hx hb dX5_undo_33 rfl (lv_at hl 1 rfl) ?_
      refine lv_sipush (v := 223) hx hb dX5_undo_34 (by decide) ?_
      refine lv_icmp_ge (tgt := 67) hx hb dX5_undo_37 (by decide) (fun c_37 => ?_) (fun c_37 => ?_)
      · have hk2 : kz = 223 := by have := z_ge_t (b := 223) c_37 (by omega) (by omega); omega
        subst hk2
        refine lv_aload_n hx hb dX5_undo_67 rfl (lv_at hl 0 rfl) ?_
        refine z_get C0 hP hM.n0 hM.o fd_X5_47 rfl dX5_undo_68 ?_
        exact z_iret C0 hP hS hr (⟨rfl, hM, hFr⟩) dX5_undo_71
      · have hk2 : kz < 223 := z_ge_f (b := 223) c_37 (by omega) (by omega)
        refine lv_aload_n hx hb dX5_undo_40 rfl (lv_at hl 0 rfl) ?_
        refine z_get C0 hP hM.n0 hM.o fd_X5_7 rfl dX5_undo_41 ?_
        refine lv_iload_n hx hb dX5_undo_44 rfl (lv_at hl 1 rfl) ?_
        refine lv_aload_n hx hb dX5_undo_45 rfl (lv_at hl 0 rfl) ?_
        refine z_get C0 hP hM.n0 hM.o fd_X5_23 rfl dX5_undo_46 ?_
        refine lv_sipush (v := 223) hx hb dX5_undo_49 (by decide) ?_
        refine lv_aload_n hx hb dX5_undo_52 rfl (lv_at hl 0 rfl) ?_
        refine z_get C0 hP hM.n0 hM.o fd_X5_47 rfl dX5_undo_53 ?_
        refine lv_imul hx hb dX5_undo_56 ?_
        refine lv_iload_n hx hb dX5_undo_57 rfl (lv_at hl 1 rfl) ?_
        refine lv_iadd hx hb dX5_undo_58 ?_
        refine z_topi (y := nI (223 * mz + kz)) (zMu _ _) ?_
        refine z_iald C0 hP hM.n5 hM.a_sv (zIx_nI (by omega) (by decide)) dX5_undo_59 ?_
        refine zp_M_s C0 hP hS hM hFr (by first | rfl | (dsimp only [zOne, zRg, zCl]; omega) | (dsimp only; omega) | omega) (zIx_nI (by omega) (by decide)) dX5_undo_60 (fun g_4 H locs hP hS hM hFr hF1 => ?_)
        rw [slG_up] at hM
        refine lv_iinc (v := nI (kz + 1)) (lv' := [(1, .int (nI (kz + 1))), (0, .ref (ad n))]) hx hb dX5_undo_61 hl (k := 1) rfl (z_inc _) (by decide) rfl (fun ls hl => ?_)
        refine lv_goto (tgt := 33) hx hb dX5_undo_64 (by decide) ?_
        exact ih_33 (kz + 1) hk2 (by omega) _ _ _ _ hP hS hM hFr (lv_sub hl [1, 0] rfl)
  exact lp_33 _ 0 (Nat.zero_le _) (Nat.lt_succ_self _) _ _ _ _ hP hS hM hFr (lv_sub hl [1, 0] rfl)
set_option maxHeartbeats 4000000 in
set_option maxRecDepth 100000 in
theorem m_X5_part (l : Launch) {D : va_G} {cy : Nat → ClassId} {K : Nat} {ad : Nat → Nat} {g : Nat → va_E} (sz : Nat) {n : Nat} {sx az so ik sv tx kn lo : Nat → Int32} {th sm lz : Int32} {dg : Int64} {iz : Nat} {rz : Int32} (hM : isM cy K ad g n sx az so ik sv tx kn lo th sm lz dg) (hi : iz < 7) (hr0 : 0 ≤ rz) (hpc : pcOK sx) : Met l yX5_part (zs yX5_part cX5_part 3 (some .int)) ({ frames := 2, cells := 0, slots := 0, locals := 43 } : Room) (va_Pc [.ref (ad n), .int (nI iz), .int rz] (zIn D cy K ad g sz)) (va_Qi (fun r g1 => r = partF sx iz rz ∧ isM cy K ad g1 n sx az so ik sv tx kn lo 0 sm lz dg ∧ zFr (zRg n (n + 9)) g g1) (zOut D cy K ad sz) (zA K ad sz)) 0 0 (zA K ad sz) := by
  refine z_met (by decide) (Nat.le_of_ble_eq_true rfl) (fun p e s m below meth c ls hsz hl C0 hr hnm hP hS => ?_)
  subst hsz
  have hl : lv_has ls 3 [(0, .ref (ad n)), (1, .int (nI iz)), (2, .int rz)] := hl
  have hx := C0.1; have hb := C0.2.1; have hown := C0.2.2.2.1; have hts := C0.2.2.2.2.1
  have hFr : zFr (zRg n (n + 9)) g g := zFr.rf
  refine lv_aload_n hx hb dX5_part_0 rfl (lv_at hl 0 rfl) ?_
  refine lv_iload_n hx hb dX5_part_1 rfl (lv_at hl 1 rfl) ?_
  refine z_Si_eq (As := [.int (nI iz)]) (rest := [.ref (ad n)]) C0 hP hS hl.1 (m_X5_isCord l _ ) lk_X5_82 rfl rfl (Nat.le_of_ble_eq_true rfl) ⟨Nat.le_of_ble_eq_true rfl, Nat.le_of_ble_eq_true rfl⟩ rfl rfl ⟨Nat.zero_le _, Nat.zero_le _⟩ dX5_part_2 (fun H locs hP hS => ?_)
  refine z_topi (y := 1) (zc1 hi) ?_
  refine lv_if_ne (tgt := 12) hx hb dX5_part_5 (by decide) (fun c_5 => ?_) (fun c_5 => absurd c_5 (by decide))
  refine lv_iload_n hx hb dX5_part_12 rfl (lv_at hl 2 rfl) ?_
  refine lv_if_ge (tgt := 20) hx hb dX5_part_13 (by decide) (fun c_13 => ?_) (fun c_13 => absurd hr0 c_13)
  refine lv_iconst (v := 0) hx hb dX5_part_20 (by decide) ?_
  refine z_Vi_mo (As := [.int 0]) (rest := []) C0 hP hS hl.1 (m_X5_holds l _ hM) lk_X5_86 hM.n0 hM.o rfl rfl (Nat.le_of_ble_eq_true rfl) ⟨Nat.le_of_ble_eq_true rfl, Nat.le_of_ble_eq_true rfl⟩ rfl rfl ⟨Nat.zero_le _, Nat.zero_le _⟩ dX5_part_21 (fun r_21 g_1 H locs hP hS hp => ?_)
  obtain ⟨hr_21, hM, hF1⟩ := hp
  subst hr_21
  have hFr := hFr.tr (hF1.mono (by intro x9 hx9; first | (dsimp only [zOne, zRg, zCl] at hx9 ⊢; omega) | (dsimp only at hx9 ⊢; omega) | omega))
  refine z_topi (y := 1) (if_pos rfl) ?_
  refine lv_if_ne (tgt := 29) hx hb dX5_part_24 (by decide) (fun c_24 => ?_) (fun c_24 => absurd c_24 (by decide))
  refine lv_iload_n hx hb dX5_part_29 rfl (lv_at hl 2 rfl) ?_
  refine lv_aload_n hx hb dX5_part_30 rfl (lv_at hl 0 rfl) ?_
  refine lv_iload_n hx hb dX5_part_31 rfl (lv_at hl 1 rfl) ?_
  refine lv_iconst (v := (nI 1)) hx hb dX5_part_32 (by decide) ?_
  refine z_Vi_eq (As := [.int (nI iz), .int (nI 1)]) (rest := [.int rz]) C0 hP hS hl.1 (m_X5_of l _ hM hi (by omega)) lk_X5_50 hM.n0 hM.o rfl rfl (Nat.le_of_ble_eq_true rfl) ⟨Nat.le_of_ble_eq_true rfl, Nat.le_of_ble_eq_true rfl⟩ rfl rfl ⟨Nat.zero_le _, Nat.zero_le _⟩ dX5_part_33 (fun H locs hP hS => ?_)
  refine z_topi (y := nI (cm sx iz)) ((hpc iz hi).1) ?_
  refine lv_icmp_ge (tgt := 50) hx hb dX5_part_36 (by decide) (fun c_36 => ?_) (fun c_36 => ?_)
  · refine lv_iconst (v := (-1)) hx hb dX5_part_50 (by decide) ?_
    exact z_iret C0 hP hS hr (⟨(if_neg (Int32.not_lt.mpr c_36)).symm, hM, hFr⟩) dX5_part_51
  · have hq := zIx_cl (len := 16) (Int32.not_lt.mpr hr0) (Int32.not_le.mp c_36) (hpc iz hi).2 (by decide)
    refine lv_aload_n hx hb dX5_part_39 rfl (lv_at hl 0 rfl) ?_
    refine lv_iload_n hx hb dX5_part_40 rfl (lv_at hl 1 rfl) ?_
    refine lv_iconst (v := 3) hx hb dX5_part_41 (by decide) ?_
    refine lv_iload_n hx hb dX5_part_42 rfl (lv_at hl 2 rfl) ?_
    refine lv_iadd hx hb dX5_part_43 ?_
    refine z_topi (y := nI (3 + rz.toNatClampNeg)) (by rw [← nI_add]; exact congrArg (fun z => (3 : Int32) + z) (nI_nat hr0)) ?_
    refine z_Vi_eq (As := [.int (nI iz), .int (nI (3 + rz.toNatClampNeg))]) (rest := []) C0 hP hS hl.1 (m_X5_of l _ hM hi (jz := 3 + rz.toNatClampNeg) (by have := hq.2; have := (hpc iz hi).2; omega)) lk_X5_50 hM.n0 hM.o rfl rfl (Nat.le_of_ble_eq_true rfl) ⟨Nat.le_of_ble_eq_true rfl, Nat.le_of_ble_eq_true rfl⟩ rfl rfl ⟨Nat.zero_le _, Nat.zero_le _⟩ dX5_part_44 (fun H locs hP hS => ?_)
    refine lv_goto (tgt := 51) hx hb dX5_part_47 (by decide) ?_
    exact z_iret C0 hP hS hr (⟨(if_pos (Int32.not_le.mp c_36)).symm, hM, hFr⟩) dX5_part_51
set_option maxHeartbeats 4000000 in
set_option maxRecDepth 100000 in
theorem m_X5_sumOf (l : Launch) {D : va_G} {cy : Nat → ClassId} {K : Nat} {ad : Nat → Nat} {g : Nat → va_E} (sz : Nat) {n : Nat} {sx az so ik sv tx kn lo : Nat → Int32} {th sm lz : Int32} {dg : Int64} {wz : Nat} (hM : isM cy K ad g n sx az so ik sv tx kn lo th sm lz dg) (hw : wz < 10) (hpc : pcOK sx) : Met l yX5_sumOf (zs yX5_sumOf cX5_sumOf 4 (some .int)) ({ frames := 5, cells := 0, slots := 0, locals := 109 } : Room) (va_Pc [.ref (ad n), .int (nI wz)] (zIn D cy K ad g sz)) (va_Qi (fun r g1 => g1 = g ∧ r = sumN (sumW sx wz) 7) (zOut D cy K ad sz) (zA K ad sz)) 0 0 (zA K ad sz) := by
  refine z_met (by decide) (Nat.le_of_ble_eq_true rfl) (fun p e s m below meth c ls hsz hl C0 hr hnm hP hS => ?_)
  subst hsz
  have hl : lv_has ls 4 [(0, .ref (ad n)), (1, .int (nI wz))] := hl
  have hx := C0.1; have hb := C0.2.1; have hown := C0.2.2.2.1; have hts := C0.2.2.2.2.1
  refine lv_iconst (v := 0) hx hb dX5_sumOf_0 (by decide) ?_
  refine lv_istore_n (lv' := [(2, .int 0), (0, .ref (ad n)), (1, .int (nI wz))]) hx hb dX5_sumOf_1 rfl hl (by decide) rfl (fun ls hl => ?_)
  refine lv_iconst (v := 0) hx hb dX5_sumOf_2 (by decide) ?_
  refine lv_istore_n (lv' := [(3, .int 0), (2, .int 0), (0, .ref (ad n)), (1, .int (nI wz))]) hx hb dX5_sumOf_3 rfl hl (by decide) rfl (fun ls hl => ?_)
  have lp_4 : ∀ (N : Nat) (kz : Nat) (hk : kz ≤ 7), 7 - kz < N → ∀ (H : Heap) (locs : List Loc) (ls : Array Slot), zP D K ad g (zA K ad s.heap.size) H → va_S (zA K ad s.heap.size) s.heap H locs → lv_has ls 4 [(0, .ref (ad n)), (1, .int (nI wz)), (2, .int (sumN (sumW sx wz) kz)), (3, .int (nI kz))] → W p l e ({ frames := 5, cells := 0, slots := 0, locals := 109 } : Room) s m [.ref (ad n), .int (nI wz)].toArray below meth c H locs 0 0 (MQ below (va_Qi (fun r g1 => g1 = g ∧ r = sumN (sumW sx wz) 7) (zOut D cy K ad s.heap.size) (zA K ad s.heap.size)) [.ref (ad n), .int (nI wz)].toArray s 0 0 (zA K ad s.heap.size)) (F0 m 4 ls []) := by
    intro N
    induction N with
    | zero => intro kz hk hN; exact absurd hN (Nat.not_lt_zero _)
    | succ N ih_4 =>
      intro kz hk hN H locs ls hP hS  hl
      refine lv_iload_n hx hb dX5_sumOf_4 rfl (lv_at hl 3 rfl) ?_
      refine lv_bipush (v := 7) hx hb dX5_sumOf_5 (by decide) ?_
      refine lv_icmp_ge (tgt := 57) hx hb dX5_sumOf_7 (by decide) (fun c_7 => ?_) (fun c_7 => ?_)
      · have hk2 : kz = 7 := by have := z_ge_t (b := 7) c_7 (by omega) (by omega); omega
        subst hk2
        refine lv_iload_n hx hb dX5_sumOf_57 rfl (lv_at hl 2 rfl) ?_
        exact z_iret C0 hP hS hr (⟨rfl, rfl⟩) dX5_sumOf_58
      · have hk2 : kz < 7 := z_ge_f (b := 7) c_7 (by omega) (by omega)
        refine lv_iload_n hx hb dX5_sumOf_10 rfl (lv_at hl 2 rfl) ?_
        refine lv_iload_n hx hb dX5_sumOf_11 rfl (lv_at hl 1 rfl) ?_
        refine lv_if_ne (tgt := 23) hx hb dX5_sumOf_12 (by decide) (fun c_12 => ?_) (fun c_12 => ?_)
        · have hw0 : ¬ wz = 0 := fun q => c_12 (by rw [q]; rfl)
          refine lv_iload_n hx hb dX5_sumOf_23 rfl (lv_at hl 1 rfl) ?_
          refine lv_iconst (v := 1) hx hb dX5_sumOf_24 (by decide) ?_
          refine lv_icmp_ne (tgt := 36) hx hb dX5_sumOf_25 (by decide) (fun c_25 => ?_) (fun c_25 => ?_)
          · have hw1 : ¬ wz = 1 := fun q => c_25 (by rw [q]; rfl)
            refine lv_aload_n hx hb dX5_sumOf_36 rfl (lv_at hl 0 rfl) ?_
            refine lv_iload_n hx hb dX5_sumOf_37 rfl (lv_at hl 3 rfl) ?_
            refine z_Vi_eq (As := [.int (nI kz)]) (rest := [.int (sumN (sumW sx wz) kz)]) C0 hP hS hl.1 (m_X5_lacks l _ hM hk2 hpc) lk_X5_79 hM.n0 hM.o rfl rfl (Nat.le_of_ble_eq_true rfl) ⟨Nat.le_of_ble_eq_true rfl, Nat.le_of_ble_eq_true rfl⟩ rfl rfl ⟨Nat.zero_le _, Nat.zero_le _⟩ dX5_sumOf_38 (fun H locs hP hS => ?_)
            refine lv_if_le (tgt := 48) hx hb dX5_sumOf_41 (by decide) (fun c_41 => ?_) (fun c_41 => ?_)
            · refine lv_iconst (v := 0) hx hb dX5_sumOf_48 (by decide) ?_
              refine lv_iadd hx hb dX5_sumOf_49 ?_
              refine z_topi (y := sumN (sumW sx wz) (kz + 1)) (congrArg (fun z => sumN (sumW sx wz) kz + z) (by first | exact (if_pos hw0).symm | exact ((if_neg hw0).trans (if_pos hw1)).symm | exact ((if_neg hw0).trans ((if_neg hw1).trans (if_pos (Int32.not_le.mp c_41)))).symm | exact ((if_neg hw0).trans ((if_neg hw1).trans (if_neg (Int32.not_lt.mpr c_41)))).symm)) ?_
              refine lv_istore_n (lv' := [(2, .int (sumN (sumW sx wz) (kz + 1))), (0, .ref (ad n)), (1, .int (nI wz)), (3, .int (nI kz))]) hx hb dX5_sumOf_50 rfl hl (by decide) rfl (fun ls hl => ?_)
              refine lv_iinc (v := nI (kz + 1)) (lv' := [(3, .int (nI (kz + 1))), (2, .int (sumN (sumW sx wz) (kz + 1))), (0, .ref (ad n)), (1, .int (nI wz))]) hx hb dX5_sumOf_51 hl (k := 3) rfl (z_inc _) (by decide) rfl (fun ls hl => ?_)
              refine lv_goto (tgt := 4) hx hb dX5_sumOf_54 (by decide) ?_
              exact ih_4 (kz + 1) hk2 (by omega) _ _ _ hP hS  (lv_sub hl [2, 3, 1, 0] rfl)
            · refine lv_iconst (v := 1) hx hb dX5_sumOf_44 (by decide) ?_
              refine lv_goto (tgt := 49) hx hb dX5_sumOf_45 (by decide) ?_
              refine lv_iadd hx hb dX5_sumOf_49 ?_
              refine z_topi (y := sumN (sumW sx wz) (kz + 1)) (congrArg (fun z => sumN (sumW sx wz) kz + z) (by first | exact (if_pos hw0).symm | exact ((if_neg hw0).trans (if_pos hw1)).symm | exact ((if_neg hw0).trans ((if_neg hw1).trans (if_pos (Int32.not_le.mp c_41)))).symm | exact ((if_neg hw0).trans ((if_neg hw1).trans (if_neg (Int32.not_lt.mpr c_41)))).symm)) ?_
              refine lv_istore_n (lv' := [(2, .int (sumN (sumW sx wz) (kz + 1))), (0, .ref (ad n)), (1, .int (nI wz)), (3, .int (nI kz))]) hx hb dX5_sumOf_50 rfl hl (by decide) rfl (fun ls hl => ?_)
              refine lv_iinc (v := nI (kz + 1)) (lv' := [(3, .int (nI (kz + 1))), (2, .int (sumN (sumW sx wz) (kz + 1))), (0, .ref (ad n)), (1, .int (nI wz))]) hx hb dX5_sumOf_51 hl (k := 3) rfl (z_inc _) (by decide) rfl (fun ls hl => ?_)
              refine lv_goto (tgt := 4) hx hb dX5_sumOf_54 (by decide) ?_
              exact ih_4 (kz + 1) hk2 (by omega) _ _ _ hP hS  (lv_sub hl [2, 3, 1, 0] rfl)
          · have hw1 : wz = 1 := (nI_eq (b := 1) (by omega) (by decide)).mp c_25
            refine lv_aload_n hx hb dX5_sumOf_28 rfl (lv_at hl 0 rfl) ?_
            refine lv_iload_n hx hb dX5_sumOf_29 rfl (lv_at hl 3 rfl) ?_
            refine z_Vi_eq (As := [.int (nI kz)]) (rest := [.int (sumN (sumW sx wz) kz)]) C0 hP hS hl.1 (m_X5_ties l _ hM hk2) lk_X5_63 hM.n0 hM.o rfl rfl (Nat.le_of_ble_eq_true rfl) ⟨Nat.le_of_ble_eq_true rfl, Nat.le_of_ble_eq_true rfl⟩ rfl rfl ⟨Nat.zero_le _, Nat.zero_le _⟩ dX5_sumOf_30 (fun H locs hP hS => ?_)
            refine lv_goto (tgt := 49) hx hb dX5_sumOf_33 (by decide) ?_
            refine lv_iadd hx hb dX5_sumOf_49 ?_
            refine z_topi (y := sumN (sumW sx wz) (kz + 1)) (congrArg (fun z => sumN (sumW sx wz) kz + z) (by first | exact (if_pos hw0).symm | exact ((if_neg hw0).trans (if_pos hw1)).symm | exact ((if_neg hw0).trans ((if_neg hw1).trans (if_pos (Int32.not_le.mp c_41)))).symm | exact ((if_neg hw0).trans ((if_neg hw1).trans (if_neg (Int32.not_lt.mpr c_41)))).symm)) ?_
            refine lv_istore_n (lv' := [(2, .int (sumN (sumW sx wz) (kz + 1))), (0, .ref (ad n)), (1, .int (nI wz)), (3, .int (nI kz))]) hx hb dX5_sumOf_50 rfl hl (by decide) rfl (fun ls hl => ?_)
            refine lv_iinc (v := nI (kz + 1)) (lv' := [(3, .int (nI (kz + 1))), (2, .int (sumN (sumW sx wz) (kz + 1))), (0, .ref (ad n)), (1, .int (nI wz))]) hx hb dX5_sumOf_51 hl (k := 3) rfl (z_inc _) (by decide) rfl (fun ls hl => ?_)
            refine lv_goto (tgt := 4) hx hb dX5_sumOf_54 (by decide) ?_
            exact ih_4 (kz + 1) hk2 (by omega) _ _ _ hP hS  (lv_sub hl [2, 3, 1, 0] rfl)
        · have hw0 : wz = 0 := (nI_eq (b := 0) (by omega) (by decide)).mp c_12
          refine lv_aload_n hx hb dX5_sumOf_15 rfl (lv_at hl 0 rfl) ?_
          refine lv_iload_n hx hb dX5_sumOf_16 rfl (lv_at hl 3 rfl) ?_
          refine z_Vi_eq (As := [.int (nI kz)]) (rest := [.int (sumN (sumW sx wz) kz)]) C0 hP hS hl.1 (m_X5_told l _ hM hk2) lk_X5_60 hM.n0 hM.o rfl rfl (Nat.le_of_ble_eq_true rfl) ⟨Nat.le_of_ble_eq_true rfl, Nat.le_of_ble_eq_true rfl⟩ rfl rfl ⟨Nat.zero_le _, Nat.zero_le _⟩ dX5_sumOf_17 (fun H locs hP hS => ?_)
          refine lv_goto (tgt := 49) hx hb dX5_sumOf_20 (by decide) ?_
          refine lv_iadd hx hb dX5_sumOf_49 ?_
          refine z_topi (y := sumN (sumW sx wz) (kz + 1)) (congrArg (fun z => sumN (sumW sx wz) kz + z) (by first | exact (if_pos hw0).symm | exact ((if_neg hw0).trans (if_pos hw1)).symm | exact ((if_neg hw0).trans ((if_neg hw1).trans (if_pos (Int32.not_le.mp c_41)))).symm | exact ((if_neg hw0).trans ((if_neg hw1).trans (if_neg (Int32.not_lt.mpr c_41)))).symm)) ?_
          refine lv_istore_n (lv' := [(2, .int (sumN (sumW sx wz) (kz + 1))), (0, .ref (ad n)), (1, .int (nI wz)), (3, .int (nI kz))]) hx hb dX5_sumOf_50 rfl hl (by decide) rfl (fun ls hl => ?_)
          refine lv_iinc (v := nI (kz + 1)) (lv' := [(3, .int (nI (kz + 1))), (2, .int (sumN (sumW sx wz) (kz + 1))), (0, .ref (ad n)), (1, .int (nI wz))]) hx hb dX5_sumOf_51 hl (k := 3) rfl (z_inc _) (by decide) rfl (fun ls hl => ?_)
          refine lv_goto (tgt := 4) hx hb dX5_sumOf_54 (by decide) ?_
          exact ih_4 (kz + 1) hk2 (by omega) _ _ _ hP hS  (lv_sub hl [2, 3, 1, 0] rfl)
  exact lp_4 _ 0 (Nat.zero_le _) (Nat.lt_succ_self _) _ _ _ hP hS  (lv_sub hl [2, 3, 1, 0] rfl)
set_option maxHeartbeats 4000000 in
set_option maxRecDepth 100000 in
theorem m_X5_counted (l : Launch) {D : va_G} {cy : Nat → ClassId} {K : Nat} {ad : Nat → Nat} {g : Nat → va_E} (sz : Nat) {n : Nat} {sx az so ik sv tx kn lo : Nat → Int32} {th sm lz : Int32} {dg : Int64} {wz : Nat} (hM : isM cy K ad g n sx az so ik sv tx kn lo th sm lz dg) (hw : wz < 10) (hpc : pcOK sx) : Met l yX5_counted (zs yX5_counted cX5_counted 2 (some .int)) ({ frames := 6, cells := 0, slots := 0, locals := 132 } : Room) (va_Pc [.ref (ad n), .int (nI wz)] (zIn D cy K ad g sz)) (va_Qi (fun r g1 => g1 = g ∧ r = cntM sx sm wz) (zOut D cy K ad sz) (zA K ad sz)) 0 0 (zA K ad sz) := by
  refine z_met (by decide) (Nat.le_of_ble_eq_true rfl) (fun p e s m below meth c ls hsz hl C0 hr hnm hP hS => ?_)
  subst hsz
  have hl : lv_has ls 2 [(0, .ref (ad n)), (1, .int (nI wz))] := hl
  have hx := C0.1; have hb := C0.2.1; have hown := C0.2.2.2.1; have hts := C0.2.2.2.2.1
  refine lv_iload_n hx hb dX5_counted_0 rfl (lv_at hl 1 rfl) ?_
  obtain rfl | rfl | rfl | rfl | rfl | rfl | rfl | rfl | rfl | rfl : wz = 0 ∨ wz = 1 ∨ wz = 2 ∨ wz = 3 ∨ wz = 4 ∨ wz = 5 ∨ wz = 6 ∨ wz = 7 ∨ wz = 8 ∨ wz = 9 := by omega
  · refine lv_tableIn (tgt := 56) hx hb dX5_counted_1 (by decide) (by decide) rfl (by decide) ?_
    refine lv_aload_n hx hb dX5_counted_56 rfl (lv_at hl 0 rfl) ?_
    refine lv_iload_n hx hb dX5_counted_57 rfl (lv_at hl 1 rfl) ?_
    refine z_Vi_eq (As := [.int (nI 0)]) (rest := []) C0 hP hS hl.1 (m_X5_sumOf l _ hM (by decide) hpc) lk_X5_140 hM.n0 hM.o rfl rfl (Nat.le_of_ble_eq_true rfl) ⟨Nat.le_of_ble_eq_true rfl, Nat.le_of_ble_eq_true rfl⟩ rfl rfl ⟨Nat.zero_le _, Nat.zero_le _⟩ dX5_counted_58 (fun H locs hP hS => ?_)
    exact z_iret C0 hP hS hr (⟨rfl, rfl⟩) dX5_counted_61
  · refine lv_tableIn (tgt := 56) hx hb dX5_counted_1 (by decide) (by decide) rfl (by decide) ?_
    refine lv_aload_n hx hb dX5_counted_56 rfl (lv_at hl 0 rfl) ?_
    refine lv_iload_n hx hb dX5_counted_57 rfl (lv_at hl 1 rfl) ?_
    refine z_Vi_eq (As := [.int (nI 1)]) (rest := []) C0 hP hS hl.1 (m_X5_sumOf l _ hM (by decide) hpc) lk_X5_140 hM.n0 hM.o rfl rfl (Nat.le_of_ble_eq_true rfl) ⟨Nat.le_of_ble_eq_true rfl, Nat.le_of_ble_eq_true rfl⟩ rfl rfl ⟨Nat.zero_le _, Nat.zero_le _⟩ dX5_counted_58 (fun H locs hP hS => ?_)
    exact z_iret C0 hP hS hr (⟨rfl, rfl⟩) dX5_counted_61
  · refine lv_tableIn (tgt := 74) hx hb dX5_counted_1 (by decide) (by decide) rfl (by decide) ?_
    refine lv_aload_n hx hb dX5_counted_74 rfl (lv_at hl 0 rfl) ?_
    refine z_get C0 hP hM.n0 hM.o fd_X5_7 rfl dX5_counted_75 ?_
    refine lv_iload_n hx hb dX5_counted_78 rfl (lv_at hl 1 rfl) ?_
    refine lv_iconst (v := 2) hx hb dX5_counted_79 (by decide) ?_
    refine lv_isub hx hb dX5_counted_80 ?_
    refine z_topi (y := nI (2 - 2)) (by decide) ?_
    refine z_iald C0 hP hM.n1 hM.a_s (zIx_nI (by decide) (by decide)) dX5_counted_81 ?_
    exact z_iret C0 hP hS hr (⟨rfl, rfl⟩) dX5_counted_82
  · refine lv_tableIn (tgt := 74) hx hb dX5_counted_1 (by decide) (by decide) rfl (by decide) ?_
    refine lv_aload_n hx hb dX5_counted_74 rfl (lv_at hl 0 rfl) ?_
    refine z_get C0 hP hM.n0 hM.o fd_X5_7 rfl dX5_counted_75 ?_
    refine lv_iload_n hx hb dX5_counted_78 rfl (lv_at hl 1 rfl) ?_
    refine lv_iconst (v := 2) hx hb dX5_counted_79 (by decide) ?_
    refine lv_isub hx hb dX5_counted_80 ?_
    refine z_topi (y := nI (3 - 2)) (by decide) ?_
    refine z_iald C0 hP hM.n1 hM.a_s (zIx_nI (by decide) (by decide)) dX5_counted_81 ?_
    exact z_iret C0 hP hS hr (⟨rfl, rfl⟩) dX5_counted_82
  · refine lv_tableIn (tgt := 74) hx hb dX5_counted_1 (by decide) (by decide) rfl (by decide) ?_
    refine lv_aload_n hx hb dX5_counted_74 rfl (lv_at hl 0 rfl) ?_
    refine z_get C0 hP hM.n0 hM.o fd_X5_7 rfl dX5_counted_75 ?_
    refine lv_iload_n hx hb dX5_counted_78 rfl (lv_at hl 1 rfl) ?_
    refine lv_iconst (v := 2) hx hb dX5_counted_79 (by decide) ?_
    refine lv_isub hx hb dX5_counted_80 ?_
    refine z_topi (y := nI (4 - 2)) (by decide) ?_
    refine z_iald C0 hP hM.n1 hM.a_s (zIx_nI (by decide) (by decide)) dX5_counted_81 ?_
    exact z_iret C0 hP hS hr (⟨rfl, rfl⟩) dX5_counted_82
  · refine lv_tableIn (tgt := 74) hx hb dX5_counted_1 (by decide) (by decide) rfl (by decide) ?_
    refine lv_aload_n hx hb dX5_counted_74 rfl (lv_at hl 0 rfl) ?_
    refine z_get C0 hP hM.n0 hM.o fd_X5_7 rfl dX5_counted_75 ?_
    refine lv_iload_n hx hb dX5_counted_78 rfl (lv_at hl 1 rfl) ?_
    refine lv_iconst (v := 2) hx hb dX5_counted_79 (by decide) ?_
    refine lv_isub hx hb dX5_counted_80 ?_
    refine z_topi (y := nI (5 - 2)) (by decide) ?_
    refine z_iald C0 hP hM.n1 hM.a_s (zIx_nI (by decide) (by decide)) dX5_counted_81 ?_
    exact z_iret C0 hP hS hr (⟨rfl, rfl⟩) dX5_counted_82
  · refine lv_tableIn (tgt := 74) hx hb dX5_counted_1 (by decide) (by decide) rfl (by decide) ?_
    refine lv_aload_n hx hb dX5_counted_74 rfl (lv_at hl 0 rfl) ?_
    refine z_get C0 hP hM.n0 hM.o fd_X5_7 rfl dX5_counted_75 ?_
    refine lv_iload_n hx hb dX5_counted_78 rfl (lv_at hl 1 rfl) ?_
    refine lv_iconst (v := 2) hx hb dX5_counted_79 (by decide) ?_
    refine lv_isub hx hb dX5_counted_80 ?_
    refine z_topi (y := nI (6 - 2)) (by decide) ?_
    refine z_iald C0 hP hM.n1 hM.a_s (zIx_nI (by decide) (by decide)) dX5_counted_81 ?_
    exact z_iret C0 hP hS hr (⟨rfl, rfl⟩) dX5_counted_82
  · refine lv_tableIn (tgt := 56) hx hb dX5_counted_1 (by decide) (by decide) rfl (by decide) ?_
    refine lv_aload_n hx hb dX5_counted_56 rfl (lv_at hl 0 rfl) ?_
    refine lv_iload_n hx hb dX5_counted_57 rfl (lv_at hl 1 rfl) ?_
    refine z_Vi_eq (As := [.int (nI 7)]) (rest := []) C0 hP hS hl.1 (m_X5_sumOf l _ hM (by decide) hpc) lk_X5_140 hM.n0 hM.o rfl rfl (Nat.le_of_ble_eq_true rfl) ⟨Nat.le_of_ble_eq_true rfl, Nat.le_of_ble_eq_true rfl⟩ rfl rfl ⟨Nat.zero_le _, Nat.zero_le _⟩ dX5_counted_58 (fun H locs hP hS => ?_)
    exact z_iret C0 hP hS hr (⟨rfl, rfl⟩) dX5_counted_61
  · refine lv_tableIn (tgt := 62) hx hb dX5_counted_1 (by decide) (by decide) rfl (by decide) ?_
    refine lv_aload_n hx hb dX5_counted_62 rfl (lv_at hl 0 rfl) ?_
    refine z_get C0 hP hM.n0 hM.o fd_X5_7 rfl dX5_counted_63 ?_
    refine lv_iconst (v := 5) hx hb dX5_counted_66 (by decide) ?_
    refine z_iald C0 hP hM.n1 hM.a_s (zIx_nI (j := 5) (by decide) (by decide)) dX5_counted_67 ?_
    exact z_iret C0 hP hS hr (⟨rfl, rfl⟩) dX5_counted_68
  · refine lv_tableIn (tgt := 69) hx hb dX5_counted_1 (by decide) (by decide) rfl (by decide) ?_
    refine lv_aload_n hx hb dX5_counted_69 rfl (lv_at hl 0 rfl) ?_
    refine z_get C0 hP hM.n0 hM.o fd_X5_47 rfl dX5_counted_70 ?_
    exact z_iret C0 hP hS hr (⟨rfl, rfl⟩) dX5_counted_73
set_option maxHeartbeats 4000000 in
set_option maxRecDepth 100000 in
theorem m_X5_count (l : Launch) {D : va_G} {cy : Nat → ClassId} {K : Nat} {ad : Nat → Nat} {g : Nat → va_E} (sz : Nat) {n : Nat} {sx az so ik sv tx kn lo : Nat → Int32} {th sm lz : Int32} {dg : Int64} {wz : Nat} (hM : isM cy K ad g n sx az so ik sv tx kn lo th sm lz dg) (hw : wz < 10) (hpc : pcOK sx) : Met l yX5_count (zs yX5_count cX5_count 2 (some .int)) ({ frames := 7, cells := 0, slots := 0, locals := 153 } : Room) (va_Pc [.ref (ad n), .int (nI wz)] (zIn D cy K ad g sz)) (va_Qi (fun r g1 => r = cntM sx sm wz ∧ isM cy K ad g1 n sx az so ik sv tx kn lo 0 sm lz dg ∧ zFr (zRg n (n + 9)) g g1) (zOut D cy K ad sz) (zA K ad sz)) 0 0 (zA K ad sz) := by
  refine z_met (by decide) (Nat.le_of_ble_eq_true rfl) (fun p e s m below meth c ls hsz hl C0 hr hnm hP hS => ?_)
  subst hsz
  have hl : lv_has ls 2 [(0, .ref (ad n)), (1, .int (nI wz))] := hl
  have hx := C0.1; have hb := C0.2.1; have hown := C0.2.2.2.1; have hts := C0.2.2.2.2.1
  have hFr : zFr (zRg n (n + 9)) g g := zFr.rf
  refine lv_aload_n hx hb dX5_count_0 rfl (lv_at hl 0 rfl) ?_
  refine lv_iload_n hx hb dX5_count_1 rfl (lv_at hl 1 rfl) ?_
  refine lv_iconst (v := 0) hx hb dX5_count_2 (by decide) ?_
  refine lv_bipush (v := 9) hx hb dX5_count_3 (by decide) ?_
  refine z_Si_eq (As := [.int (nI wz), .int 0, .int 9]) (rest := [.ref (ad n)]) C0 hP hS hl.1 (m_X5_in l _ ) lk_X5_39 rfl rfl (Nat.le_of_ble_eq_true rfl) ⟨Nat.le_of_ble_eq_true rfl, Nat.le_of_ble_eq_true rfl⟩ rfl rfl ⟨Nat.zero_le _, Nat.zero_le _⟩ dX5_count_5 (fun H locs hP hS => ?_)
  refine z_topi (y := 1) (zc1' (m := 9) (by omega) (by decide)) ?_
  refine lv_if_eq (tgt := 15) hx hb dX5_count_8 (by decide) (fun c_8 => absurd c_8 (by decide)) (fun c_8 => ?_)
  refine lv_iconst (v := 0) hx hb dX5_count_11 (by decide) ?_
  refine lv_goto (tgt := 16) hx hb dX5_count_12 (by decide) ?_
  refine z_Vi_mo (As := [.int 0]) (rest := []) C0 hP hS hl.1 (m_X5_holds l _ hM) lk_X5_86 hM.n0 hM.o rfl rfl (Nat.le_of_ble_eq_true rfl) ⟨Nat.le_of_ble_eq_true rfl, Nat.le_of_ble_eq_true rfl⟩ rfl rfl ⟨Nat.zero_le _, Nat.zero_le _⟩ dX5_count_16 (fun r_16 g_1 H locs hP hS hp => ?_)
  obtain ⟨hr_16, hM, hF1⟩ := hp
  subst hr_16
  have hFr := hFr.tr (hF1.mono (by intro x9 hx9; first | (dsimp only [zOne, zRg, zCl] at hx9 ⊢; omega) | (dsimp only at hx9 ⊢; omega) | omega))
  refine z_topi (y := 1) (if_pos rfl) ?_
  refine lv_if_eq (tgt := 30) hx hb dX5_count_19 (by decide) (fun c_19 => absurd c_19 (by decide)) (fun c_19 => ?_)
  refine lv_aload_n hx hb dX5_count_22 rfl (lv_at hl 0 rfl) ?_
  refine lv_iload_n hx hb dX5_count_23 rfl (lv_at hl 1 rfl) ?_
  refine z_Vi_eq (As := [.int (nI wz)]) (rest := []) C0 hP hS hl.1 (m_X5_counted l _ hM hw hpc) lk_X5_143 hM.n0 hM.o rfl rfl (Nat.le_of_ble_eq_true rfl) ⟨Nat.le_of_ble_eq_true rfl, Nat.le_of_ble_eq_true rfl⟩ rfl rfl ⟨Nat.zero_le _, Nat.zero_le _⟩ dX5_count_24 (fun H locs hP hS => ?_)
  refine lv_goto (tgt := 31) hx hb dX5_count_27 (by decide) ?_
  exact z_iret C0 hP hS hr (⟨rfl, hM, hFr⟩) dX5_count_31
set_option maxHeartbeats 4000000 in
set_option maxRecDepth 100000 in
theorem m_X5_ofHue (l : Launch) {D : va_G} {cy : Nat → ClassId} {K : Nat} {ad : Nat → Nat} {g : Nat → va_E} (sz : Nat) {n : Nat} {sx az so ik sv tx kn lo : Nat → Int32} {th sm lz : Int32} {dg : Int64} {hu : Int32} (hM : isM cy K ad g n sx az so ik sv tx kn lo th sm lz dg) : Met l yX5_ofHue (zs yX5_ofHue cX5_ofHue 4 (some .int)) ({ frames := 4, cells := 0, slots := 0, locals := 88 } : Room) (va_Pc [.ref (ad n), .int hu] (zIn D cy K ad g sz)) (va_Qi (fun r g1 => g1 = g ∧ r = sumN (hueN sx hu) 7) (zOut D cy K ad sz) (zA K ad sz)) 0 0 (zA K ad sz) := by
  refine z_met (by decide) (Nat.le_of_ble_eq_true rfl) (fun p e s m below meth c ls hsz hl C0 hr hnm hP hS => ?_)
  subst hsz
  have hl : lv_has ls 4 [(0, .ref (ad n)), (1, .int hu)] := hl
  have hx := C0.1; have hb := C0.2.1; have hown := C0.2.2.2.1; have hts := C0.2.2.2.2.1
  refine lv_iconst (v := 0) hx hb dX5_ofHue_0 (by decide) ?_
  refine lv_istore_n (lv' := [(2, .int 0), (0, .ref (ad n)), (1, .int hu)]) hx hb dX5_ofHue_1 rfl hl (by decide) rfl (fun ls hl => ?_)
  refine lv_iconst (v := 0) hx hb dX5_ofHue_2 (by decide) ?_
  refine lv_istore_n (lv' := [(3, .int 0), (2, .int 0), (0, .ref (ad n)), (1, .int hu)]) hx hb dX5_ofHue_3 rfl hl (by decide) rfl (fun ls hl => ?_)
  have lp_4 : ∀ (N : Nat) (kz : Nat) (hk : kz ≤ 7), 7 - kz < N → ∀ (H : Heap) (locs : List Loc) (ls : Array Slot), zP D K ad g (zA K ad s.heap.size) H → va_S (zA K ad s.heap.size) s.heap H locs → lv_has ls 4 [(0, .ref (ad n)), (1, .int hu), (2, .int (sumN (hueN sx hu) kz)), (3, .int (nI kz))] → W p l e ({ frames := 4, cells := 0, slots := 0, locals := 88 } : Room) s m [.ref (ad n), .int hu].toArray below meth c H locs 0 0 (MQ below (va_Qi (fun r g1 => g1 = g ∧ r = sumN (hueN sx hu) 7) (zOut D cy K ad s.heap.size) (zA K ad s.heap.size)) [.ref (ad n), .int hu].toArray s 0 0 (zA K ad s.heap.size)) (F0 m 4 ls []) := by
    intro N
    induction N with
    | zero => intro kz hk hN; exact absurd hN (Nat.not_lt_zero _)
    | succ N ih_4 =>
      intro kz hk hN H locs ls hP hS  hl
      refine lv_iload_n hx hb dX5_ofHue_4 rfl (lv_at hl 3 rfl) ?_
      refine lv_bipush (v := 7) hx hb dX5_ofHue_5 (by decide) ?_
      refine lv_icmp_ge (tgt := 38) hx hb dX5_ofHue_7 (by decide) (fun c_7 => ?_) (fun c_7 => ?_)
      · have hk2 : kz = 7 := by have := z_ge_t (b := 7) c_7 (by omega) (by omega); omega
        subst hk2
        refine lv_iload_n hx hb dX5_ofHue_38 rfl (lv_at hl 2 rfl) ?_
        exact z_iret C0 hP hS hr (⟨rfl, rfl⟩) dX5_ofHue_39
      · have hk2 : kz < 7 := z_ge_f (b := 7) c_7 (by omega) (by omega)
        refine lv_iload_n hx hb dX5_ofHue_10 rfl (lv_at hl 2 rfl) ?_
        refine lv_aload_n hx hb dX5_ofHue_11 rfl (lv_at hl 0 rfl) ?_
        refine lv_iload_n hx hb dX5_ofHue_12 rfl (lv_at hl 3 rfl) ?_
        refine lv_iconst (v := (nI 0)) hx hb dX5_ofHue_13 (by decide) ?_
        refine z_Vi_eq (As := [.int (nI kz), .int (nI 0)]) (rest := [.int (sumN (hueN sx hu) kz)]) C0 hP hS hl.1 (m_X5_of l _ hM hk2 (by omega)) lk_X5_50 hM.n0 hM.o rfl rfl (Nat.le_of_ble_eq_true rfl) ⟨Nat.le_of_ble_eq_true rfl, Nat.le_of_ble_eq_true rfl⟩ rfl rfl ⟨Nat.zero_le _, Nat.zero_le _⟩ dX5_ofHue_14 (fun H locs hP hS => ?_)
        refine lv_iload_n hx hb dX5_ofHue_17 rfl (lv_at hl 1 rfl) ?_
        refine lv_icmp_ne (tgt := 29) hx hb dX5_ofHue_18 (by decide) (fun c_18 => ?_) (fun c_18 => ?_)
        · refine lv_iconst (v := 0) hx hb dX5_ofHue_29 (by decide) ?_
          refine lv_iadd hx hb dX5_ofHue_30 ?_
          refine z_topi (y := sumN (hueN sx hu) (kz + 1)) (congrArg (fun z => sumN (hueN sx hu) kz + z) (by first | exact (if_pos c_18).symm | exact (if_neg c_18).symm)) ?_
          refine lv_istore_n (lv' := [(2, .int (sumN (hueN sx hu) (kz + 1))), (0, .ref (ad n)), (1, .int hu), (3, .int (nI kz))]) hx hb dX5_ofHue_31 rfl hl (by decide) rfl (fun ls hl => ?_)
          refine lv_iinc (v := nI (kz + 1)) (lv' := [(3, .int (nI (kz + 1))), (2, .int (sumN (hueN sx hu) (kz + 1))), (0, .ref (ad n)), (1, .int hu)]) hx hb dX5_ofHue_32 hl (k := 3) rfl (z_inc _) (by decide) rfl (fun ls hl => ?_)
          refine lv_goto (tgt := 4) hx hb dX5_ofHue_35 (by decide) ?_
          exact ih_4 (kz + 1) hk2 (by omega) _ _ _ hP hS  (lv_sub hl [2, 3, 1, 0] rfl)
        · refine lv_aload_n hx hb dX5_ofHue_21 rfl (lv_at hl 0 rfl) ?_
          refine lv_iload_n hx hb dX5_ofHue_22 rfl (lv_at hl 3 rfl) ?_
          refine z_Vi_eq (As := [.int (nI kz)]) (rest := [.int (sumN (hueN sx hu) kz)]) C0 hP hS hl.1 (m_X5_told l _ hM hk2) lk_X5_60 hM.n0 hM.o rfl rfl (Nat.le_of_ble_eq_true rfl) ⟨Nat.le_of_ble_eq_true rfl, Nat.le_of_ble_eq_true rfl⟩ rfl rfl ⟨Nat.zero_le _, Nat.zero_le _⟩ dX5_ofHue_23 (fun H locs hP hS => ?_)
          refine lv_goto (tgt := 30) hx hb dX5_ofHue_26 (by decide) ?_
          refine lv_iadd hx hb dX5_ofHue_30 ?_
          refine z_topi (y := sumN (hueN sx hu) (kz + 1)) (congrArg (fun z => sumN (hueN sx hu) kz + z) (by first | exact (if_pos c_18).symm | exact (if_neg c_18).symm)) ?_
          refine lv_istore_n (lv' := [(2, .int (sumN (hueN sx hu) (kz + 1))), (0, .ref (ad n)), (1, .int hu), (3, .int (nI kz))]) hx hb dX5_ofHue_31 rfl hl (by decide) rfl (fun ls hl => ?_)
          refine lv_iinc (v := nI (kz + 1)) (lv' := [(3, .int (nI (kz + 1))), (2, .int (sumN (hueN sx hu) (kz + 1))), (0, .ref (ad n)), (1, .int hu)]) hx hb dX5_ofHue_32 hl (k := 3) rfl (z_inc _) (by decide) rfl (fun ls hl => ?_)
          refine lv_goto (tgt := 4) hx hb dX5_ofHue_35 (by decide) ?_
          exact ih_4 (kz + 1) hk2 (by omega) _ _ _ hP hS  (lv_sub hl [2, 3, 1, 0] rfl)
  exact lp_4 _ 0 (Nat.zero_le _) (Nat.lt_succ_self _) _ _ _ hP hS  (lv_sub hl [2, 3, 1, 0] rfl)
set_option maxHeartbeats 4000000 in
set_option maxRecDepth 100000 in
theorem m_X5_byHue (l : Launch) {D : va_G} {cy : Nat → ClassId} {K : Nat} {ad : Nat → Nat} {g : Nat → va_E} (sz : Nat) {n : Nat} {sx az so ik sv tx kn lo : Nat → Int32} {th sm lz : Int32} {dg : Int64} {hu : Int32} (hM : isM cy K ad g n sx az so ik sv tx kn lo th sm lz dg) (hu1 : ¬ hu < 0) (hu2 : hu < 6) : Met l yX5_byHue (zs yX5_byHue cX5_byHue 2 (some .int)) ({ frames := 5, cells := 0, slots := 0, locals := 111 } : Room) (va_Pc [.ref (ad n), .int hu] (zIn D cy K ad g sz)) (va_Qi (fun r g1 => r = sumN (hueN sx hu) 7 ∧ isM cy K ad g1 n sx az so ik sv tx kn lo 0 sm lz dg ∧ zFr (zRg n (n + 9)) g g1) (zOut D cy K ad sz) (zA K ad sz)) 0 0 (zA K ad sz) := by
  refine z_met (by decide) (Nat.le_of_ble_eq_true rfl) (fun p e s m below meth c ls hsz hl C0 hr hnm hP hS => ?_)
  subst hsz
  have hl : lv_has ls 2 [(0, .ref (ad n)), (1, .int hu)] := hl
  have hx := C0.1; have hb := C0.2.1; have hown := C0.2.2.2.1; have hts := C0.2.2.2.2.1
  have hFr : zFr (zRg n (n + 9)) g g := zFr.rf
  refine lv_aload_n hx hb dX5_byHue_0 rfl (lv_at hl 0 rfl) ?_
  refine lv_iload_n hx hb dX5_byHue_1 rfl (lv_at hl 1 rfl) ?_
  refine lv_iconst (v := 0) hx hb dX5_byHue_2 (by decide) ?_
  refine lv_iconst (v := 5) hx hb dX5_byHue_3 (by decide) ?_
  refine z_Si_eq (As := [.int hu, .int 0, .int 5]) (rest := [.ref (ad n)]) C0 hP hS hl.1 (m_X5_in l _ ) lk_X5_39 rfl rfl (Nat.le_of_ble_eq_true rfl) ⟨Nat.le_of_ble_eq_true rfl, Nat.le_of_ble_eq_true rfl⟩ rfl rfl ⟨Nat.zero_le _, Nat.zero_le _⟩ dX5_byHue_4 (fun H locs hP hS => ?_)
  refine z_topi (y := 1) (if_pos ⟨Int32.not_lt.mp hu1, zlt_le hu2 rfl⟩) ?_
  refine lv_if_eq (tgt := 14) hx hb dX5_byHue_7 (by decide) (fun c_7 => absurd c_7 (by decide)) (fun c_7 => ?_)
  refine lv_iconst (v := 0) hx hb dX5_byHue_10 (by decide) ?_
  refine lv_goto (tgt := 15) hx hb dX5_byHue_11 (by decide) ?_
  refine z_Vi_mo (As := [.int 0]) (rest := []) C0 hP hS hl.1 (m_X5_holds l _ hM) lk_X5_86 hM.n0 hM.o rfl rfl (Nat.le_of_ble_eq_true rfl) ⟨Nat.le_of_ble_eq_true rfl, Nat.le_of_ble_eq_true rfl⟩ rfl rfl ⟨Nat.zero_le _, Nat.zero_le _⟩ dX5_byHue_15 (fun r_15 g_1 H locs hP hS hp => ?_)
  obtain ⟨hr_15, hM, hF1⟩ := hp
  subst hr_15
  have hFr := hFr.tr (hF1.mono (by intro x9 hx9; first | (dsimp only [zOne, zRg, zCl] at hx9 ⊢; omega) | (dsimp only at hx9 ⊢; omega) | omega))
  refine z_topi (y := 1) (if_pos rfl) ?_
  refine lv_if_eq (tgt := 29) hx hb dX5_byHue_18 (by decide) (fun c_18 => absurd c_18 (by decide)) (fun c_18 => ?_)
  refine lv_aload_n hx hb dX5_byHue_21 rfl (lv_at hl 0 rfl) ?_
  refine lv_iload_n hx hb dX5_byHue_22 rfl (lv_at hl 1 rfl) ?_
  refine z_Vi_eq (As := [.int hu]) (rest := []) C0 hP hS hl.1 (m_X5_ofHue l _ hM) lk_X5_146 hM.n0 hM.o rfl rfl (Nat.le_of_ble_eq_true rfl) ⟨Nat.le_of_ble_eq_true rfl, Nat.le_of_ble_eq_true rfl⟩ rfl rfl ⟨Nat.zero_le _, Nat.zero_le _⟩ dX5_byHue_23 (fun H locs hP hS => ?_)
  refine lv_goto (tgt := 30) hx hb dX5_byHue_26 (by decide) ?_
  exact z_iret C0 hP hS hr (⟨rfl, hM, hFr⟩) dX5_byHue_30
set_option maxHeartbeats 4000000 in
set_option maxRecDepth 100000 in
theorem m_X5_whyNot (l : Launch) {D : va_G} {cy : Nat → ClassId} {K : Nat} {ad : Nat → Nat} {g : Nat → va_E} (sz : Nat) {n : Nat} {sx az so ik sv tx kn lo : Nat → Int32} {th sm lz : Int32} {dg : Int64} {iz : Nat} {num : Int32} (hM : isM cy K ad g n sx az so ik sv tx kn lo th sm lz dg) (hi : iz < 7) (hn1 : ¬ num < 1) (hn2 : num ≤ 999999) (hpc : pcOK sx) : Met l yX5_whyNot (zs yX5_whyNot cX5_whyNot 3 (some .int)) ({ frames := 6, cells := 0, slots := 0, locals := 138 } : Room) (va_Pc [.ref (ad n), .int (nI iz), .int num] (zIn D cy K ad g sz)) (va_Qi (fun r g1 => r = cRop sx iz num ∧ (∃ kn lo : Nat → Int32, isM cy K ad g1 n sx az so ik sv tx kn lo 0 sm lz dg) ∧ zFr (zRg n (n + 9)) g g1) (zOut D cy K ad sz) (zA K ad sz)) 0 0 (zA K ad sz) := by
  refine z_met (by decide) (Nat.le_of_ble_eq_true rfl) (fun p e s m below meth c ls hsz hl C0 hr hnm hP hS => ?_)
  subst hsz
  have hl : lv_has ls 3 [(0, .ref (ad n)), (1, .int (nI iz)), (2, .int num)] := hl
  have hx := C0.1; have hb := C0.2.1; have hown := C0.2.2.2.1; have hts := C0.2.2.2.2.1
  have hFr : zFr (zRg n (n + 9)) g g := zFr.rf
  refine lv_aload_n hx hb dX5_whyNot_0 rfl (lv_at hl 0 rfl) ?_
  refine lv_iload_n hx hb dX5_whyNot_1 rfl (lv_at hl 1 rfl) ?_
  refine z_Si_eq (As := [.int (nI iz)]) (rest := [.ref (ad n)]) C0 hP hS hl.1 (m_X5_isCord l _ ) lk_X5_82 rfl rfl (Nat.le_of_ble_eq_true rfl) ⟨Nat.le_of_ble_eq_true rfl, Nat.le_of_ble_eq_true rfl⟩ rfl rfl ⟨Nat.zero_le _, Nat.zero_le _⟩ dX5_whyNot_2 (fun H locs hP hS => ?_)
  refine z_topi (y := 1) (zc1 hi) ?_
  refine lv_if_ne (tgt := 12) hx hb dX5_whyNot_5 (by decide) (fun c_5 => ?_) (fun c_5 => absurd c_5 (by decide))
  refine lv_iload_n hx hb dX5_whyNot_12 rfl (lv_at hl 2 rfl) ?_
  refine lv_iconst (v := 1) hx hb dX5_whyNot_13 (by decide) ?_
  refine lv_ldc hx hb hown (hts _ q824) dX5_whyNot_14 ?_
  refine z_Si_eq (As := [.int num, .int 1, .int 999999]) (rest := [.ref (ad n)]) C0 hP hS hl.1 (m_X5_in l _ ) lk_X5_39 rfl rfl (Nat.le_of_ble_eq_true rfl) ⟨Nat.le_of_ble_eq_true rfl, Nat.le_of_ble_eq_true rfl⟩ rfl rfl ⟨Nat.zero_le _, Nat.zero_le _⟩ dX5_whyNot_16 (fun H locs hP hS => ?_)
  refine z_topi (y := 1) (if_pos ⟨Int32.not_lt.mp hn1, hn2⟩) ?_
  refine lv_if_ne (tgt := 26) hx hb dX5_whyNot_19 (by decide) (fun c_19 => ?_) (fun c_19 => absurd c_19 (by decide))
  refine lv_iconst (v := 0) hx hb dX5_whyNot_26 (by decide) ?_
  refine z_Vi_mo (As := [.int 0]) (rest := []) C0 hP hS hl.1 (m_X5_holds l _ hM) lk_X5_86 hM.n0 hM.o rfl rfl (Nat.le_of_ble_eq_true rfl) ⟨Nat.le_of_ble_eq_true rfl, Nat.le_of_ble_eq_true rfl⟩ rfl rfl ⟨Nat.zero_le _, Nat.zero_le _⟩ dX5_whyNot_27 (fun r_27 g_1 H locs hP hS hp => ?_)
  obtain ⟨hr_27, hM, hF1⟩ := hp
  subst hr_27
  have hFr := hFr.tr (hF1.mono (by intro x9 hx9; first | (dsimp only [zOne, zRg, zCl] at hx9 ⊢; omega) | (dsimp only at hx9 ⊢; omega) | omega))
  refine z_topi (y := 1) (if_pos rfl) ?_
  refine lv_if_eq (tgt := 42) hx hb dX5_whyNot_30 (by decide) (fun c_30 => absurd c_30 (by decide)) (fun c_30 => ?_)
  refine lv_aload_n hx hb dX5_whyNot_33 rfl (lv_at hl 0 rfl) ?_
  refine lv_iload_n hx hb dX5_whyNot_34 rfl (lv_at hl 1 rfl) ?_
  refine lv_iload_n hx hb dX5_whyNot_35 rfl (lv_at hl 2 rfl) ?_
  refine z_Vi_mo (As := [.int (nI iz), .int num]) (rest := []) C0 hP hS hl.1 (m_X5_reasonFor l _ hM hi hpc) lk_X5_70 hM.n0 hM.o rfl rfl (Nat.le_of_ble_eq_true rfl) ⟨Nat.le_of_ble_eq_true rfl, Nat.le_of_ble_eq_true rfl⟩ rfl rfl ⟨Nat.zero_le _, Nat.zero_le _⟩ dX5_whyNot_36 (fun r_36 g_2 H locs hP hS hp => ?_)
  obtain ⟨hr_36, hM, hF1⟩ := hp
  subst hr_36
  have hFr := hFr.tr (hF1.mono (by intro x9 hx9; first | (dsimp only [zOne, zRg, zCl] at hx9 ⊢; omega) | (dsimp only at hx9 ⊢; omega) | omega))
  refine lv_goto (tgt := 43) hx hb dX5_whyNot_39 (by decide) ?_
  exact z_iret C0 hP hS hr (⟨rfl, ⟨_, _, hM⟩, hFr⟩) dX5_whyNot_43
set_option maxHeartbeats 4000000 in
set_option maxRecDepth 100000 in
theorem m_X5_times (l : Launch) {D : va_G} {cy : Nat → ClassId} {K : Nat} {ad : Nat → Nat} {g : Nat → va_E} (sz : Nat) {n : Nat} {sx az so ik sv tx kn lo : Nat → Int32} {th sm lz : Int32} {dg : Int64} {iz : Nat} {num : Int32} (hM : isM cy K ad g n sx az so ik sv tx kn lo th sm lz dg) (hi : iz < 7) (hpc : pcOK sx) (hge : ∀ k, cRop (itT sx iz num k) iz num = 0 → 10 ≤ tieR (itT sx iz num k) iz num) : Met l yX5_times (zs yX5_times cX5_times 4 (some .int)) ({ frames := 7, cells := 0, slots := 0, locals := 161 } : Room) (va_Pc [.ref (ad n), .int (nI iz), .int num] (zIn D cy K ad g sz)) (va_Qi (fun r g1 => r = nI (hoM iz num (16 - cm sx iz) sx) ∧ (∃ az kn lo : Nat → Int32, isM cy K ad g1 n sx az so ik sv tx kn lo th sm lz dg) ∧ zFr (zRg n (n + 9)) g g1) (zOut D cy K ad sz) (zA K ad sz)) 0 0 (zA K ad sz) := by
  refine z_met (by decide) (Nat.le_of_ble_eq_true rfl) (fun p e s m below meth c ls hsz hl C0 hr hnm hP hS => ?_)
  subst hsz
  have hl : lv_has ls 4 [(0, .ref (ad n)), (1, .int (nI iz)), (2, .int num)] := hl
  have hx := C0.1; have hb := C0.2.1; have hown := C0.2.2.2.1; have hts := C0.2.2.2.2.1
  have hFr : zFr (zRg n (n + 9)) g g := zFr.rf
  refine lv_aload_n hx hb dX5_times_0 rfl (lv_at hl 0 rfl) ?_
  refine z_Vv_mo (As := []) (rest := []) C0 hP hS hl.1 (m_X5_putAside l _ hM) lk_X5_149 hM.n0 hM.o rfl rfl (Nat.le_of_ble_eq_true rfl) ⟨Nat.le_of_ble_eq_true rfl, Nat.le_of_ble_eq_true rfl⟩ rfl rfl ⟨Nat.zero_le _, Nat.zero_le _⟩ dX5_times_1 (fun g_1 H locs hP hS hp => ?_)
  obtain ⟨hM, hF1⟩ := hp
  have hFr := hFr.tr (hF1.mono (by intro x9 hx9; first | (dsimp only [zOne, zRg, zCl] at hx9 ⊢; omega) | (dsimp only at hx9 ⊢; omega) | omega))
  refine lv_iconst (v := 0) hx hb dX5_times_4 (by decide) ?_
  refine lv_istore_n (lv' := [(3, .int 0), (0, .ref (ad n)), (1, .int (nI iz)), (2, .int num)]) hx hb dX5_times_5 rfl hl (by decide) rfl (fun ls hl => ?_)
  have lp_6 : ∀ (N : Nat) (tz kk : Nat) (sc kn lo : Nat → Int32) (hS0 : sc = itT sx iz num kk) (hpS : pcOK sc) (hO : tz + hoM iz num (16 - cm sc iz) sc = hoM iz num (16 - cm sx iz) sx) (hfar : ∀ x, 223 ≤ x → sc x = sx x), 16 - cm sc iz + 1 < N → ∀ (g_2 : Nat → va_E) (H : Heap) (locs : List Loc) (ls : Array Slot), zP D K ad g_2 (zA K ad s.heap.size) H → va_S (zA K ad s.heap.size) s.heap H locs → isM cy K ad g_2 n sc ((cpF sx az 223)) so ik sv tx kn lo th sm lz dg → zFr (zRg n (n + 9)) g g_2 → lv_has ls 4 [(0, .ref (ad n)), (1, .int (nI iz)), (2, .int num), (3, .int (nI tz))] → W p l e ({ frames := 7, cells := 0, slots := 0, locals := 161 } : Room) s m [.ref (ad n), .int (nI iz), .int num].toArray below meth c H locs 0 0 (MQ below (va_Qi (fun r g1 => r = nI (hoM iz num (16 - cm sx iz) sx) ∧ (∃ az kn lo : Nat → Int32, isM cy K ad g1 n sx az so ik sv tx kn lo th sm lz dg) ∧ zFr (zRg n (n + 9)) g g1) (zOut D cy K ad s.heap.size) (zA K ad s.heap.size)) [.ref (ad n), .int (nI iz), .int num].toArray s 0 0 (zA K ad s.heap.size)) (F0 m 6 ls []) := by
    intro N
    induction N with
    | zero => intro tz kk sc kn lo hS0 hpS hO hfar hN; exact absurd hN (Nat.not_lt_zero _)
    | succ N ih_6 =>
      intro tz kk sc kn lo hS0 hpS hO hfar hN g_2 H locs ls hP hS hM hFr hl
      refine lv_aload_n hx hb dX5_times_6 rfl (lv_at hl 0 rfl) ?_
      refine lv_iload_n hx hb dX5_times_7 rfl (lv_at hl 1 rfl) ?_
      refine lv_iload_n hx hb dX5_times_8 rfl (lv_at hl 2 rfl) ?_
      refine z_Vi_mo (As := [.int (nI iz), .int num]) (rest := []) C0 hP hS hl.1 (m_X5_tiesPart l _ hM hi hpS) lk_X5_76 hM.n0 hM.o rfl rfl (Nat.le_of_ble_eq_true rfl) ⟨Nat.le_of_ble_eq_true rfl, Nat.le_of_ble_eq_true rfl⟩ rfl rfl ⟨Nat.zero_le _, Nat.zero_le _⟩ dX5_times_9 (fun r_9 g_3 H locs hP hS hp => ?_)
      obtain ⟨hr_9, ⟨kn1, lo1, hM⟩, hF1⟩ := hp
      subst hr_9
      have hFr := hFr.tr (hF1.mono (by intro x9 hx9; first | (dsimp only [zOne, zRg, zCl] at hx9 ⊢; omega) | (dsimp only at hx9 ⊢; omega) | omega))
      refine lv_bipush (v := 10) hx hb dX5_times_12 (by decide) ?_
      refine lv_icmp_lt (tgt := 23) hx hb dX5_times_14 (by decide) (fun c_14 => ?_) (fun c_14 => ?_)
      · have hc : ¬ cRop sc iz num = 0 := fun q => by subst hS0; exact absurd c_14 (Int32.not_lt.mpr (hge kk q))
        have hO2 : tz = hoM iz num (16 - cm sx iz) sx := by rw [← hO]; exact (hoM_no hc).symm
        have hfar2 : ∀ x, 223 ≤ x → tieS sc iz num x = sx x := fun x hx => by unfold tieS; rw [if_neg hc]; exact (if_neg (by omega)).trans (hfar x hx)
        refine lv_aload_n hx hb dX5_times_23 rfl (lv_at hl 0 rfl) ?_
        refine z_Vv_mo (As := []) (rest := []) C0 hP hS hl.1 (m_X5_putBack l _ hM) lk_X5_152 hM.n0 hM.o rfl rfl (Nat.le_of_ble_eq_true rfl) ⟨Nat.le_of_ble_eq_true rfl, Nat.le_of_ble_eq_true rfl⟩ rfl rfl ⟨Nat.zero_le _, Nat.zero_le _⟩ dX5_times_24 (fun g_4 H locs hP hS hp => ?_)
        obtain ⟨hM, hF1⟩ := hp
        have hFr := hFr.tr (hF1.mono (by intro x9 hx9; first | (dsimp only [zOne, zRg, zCl] at hx9 ⊢; omega) | (dsimp only at hx9 ⊢; omega) | omega))
        rw [cp_back hfar2] at hM
        refine lv_iload_n hx hb dX5_times_27 rfl (lv_at hl 3 rfl) ?_
        exact z_iret C0 hP hS hr (⟨congrArg nI hO2, ⟨_, _, _, hM⟩, hFr⟩) dX5_times_28
      · have hc : cRop sc iz num = 0 := by by_cases hc : cRop sc iz num = 0; exact hc; exfalso; rw [show tieR sc iz num = cRop sc iz num from if_neg hc] at c_14; exact c_14 (rop_lt10 _ _ _ _ _)
        have hc16 := rop_lt hc
        have hM : isM cy K ad g_3 n (tieF sc iz num) (cpF sx az 223) so ik sv tx kn1 lo1 th sm lz dg := by rw [show tieF sc iz num = tieS sc iz num from (if_pos hc).symm]; exact hM
        have hO2 : tz + 1 + hoM iz num (16 - cm (tieF sc iz num) iz) (tieF sc iz num) = hoM iz num (16 - cm sx iz) sx := by rw [← hO]; exact hoM_yes hc hc16
        refine lv_iinc (v := nI (tz + 1)) (lv' := [(3, .int (nI (tz + 1))), (0, .ref (ad n)), (1, .int (nI iz)), (2, .int num)]) hx hb dX5_times_17 hl (k := 3) rfl (z_inc _) (by decide) rfl (fun ls hl => ?_)
        refine lv_goto (tgt := 6) hx hb dX5_times_20 (by decide) ?_
        have hcm1 := tieF_cm (num := num) hc16
        exact ih_6 (tz + 1) (kk + 1) (tieF sc iz num) kn1 lo1 (by subst hS0; exact (if_pos hc).symm) (pcOK_tieF hpS hc16 hi) hO2 (fun x hx => (tieF_far hi (hpS iz hi).2 hx).trans (hfar x hx)) (by omega) _ _ _ _ hP hS hM hFr (lv_sub hl [1, 2, 3, 0] rfl)
  exact lp_6 _ 0 0 sx kn lo rfl hpc (Nat.zero_add _) (fun _ _ => rfl) (Nat.lt_succ_self _) _ _ _ _ hP hS hM hFr (lv_sub hl [1, 2, 3, 0] rfl)
set_option maxHeartbeats 4000000 in
set_option maxRecDepth 100000 in
theorem m_X5_howOften (l : Launch) {D : va_G} {cy : Nat → ClassId} {K : Nat} {ad : Nat → Nat} {g : Nat → va_E} (sz : Nat) {n : Nat} {sx az so ik sv tx kn lo : Nat → Int32} {th sm lz : Int32} {dg : Int64} {iz : Nat} {num : Int32} (hM : isM cy K ad g n sx az so ik sv tx kn lo th sm lz dg) (hi : iz < 7) (hn1 : ¬ num < 1) (hn2 : num ≤ 999999) (hpc : pcOK sx) (hge : ∀ k, cRop (itT sx iz num k) iz num = 0 → 10 ≤ tieR (itT sx iz num k) iz num) : Met l yX5_howOften (zs yX5_howOften cX5_howOften 3 (some .int)) ({ frames := 8, cells := 0, slots := 0, locals := 184 } : Room) (va_Pc [.ref (ad n), .int (nI iz), .int num] (zIn D cy K ad g sz)) (va_Qi (fun r g1 => r = nI (hoM iz num (16 - cm sx iz) sx) ∧ (∃ az kn lo : Nat → Int32, isM cy K ad g1 n sx az so ik sv tx kn lo 0 sm lz dg) ∧ zFr (zRg n (n + 9)) g g1) (zOut D cy K ad sz) (zA K ad sz)) 0 0 (zA K ad sz) := by
  refine z_met (by decide) (Nat.le_of_ble_eq_true rfl) (fun p e s m below meth c ls hsz hl C0 hr hnm hP hS => ?_)
  subst hsz
  have hl : lv_has ls 3 [(0, .ref (ad n)), (1, .int (nI iz)), (2, .int num)] := hl
  have hx := C0.1; have hb := C0.2.1; have hown := C0.2.2.2.1; have hts := C0.2.2.2.2.1
  have hFr : zFr (zRg n (n + 9)) g g := zFr.rf
  refine lv_aload_n hx hb dX5_howOften_0 rfl (lv_at hl 0 rfl) ?_
  refine lv_iload_n hx hb dX5_howOften_1 rfl (lv_at hl 1 rfl) ?_
  refine z_Si_eq (As := [.int (nI iz)]) (rest := [.ref (ad n)]) C0 hP hS hl.1 (m_X5_isCord l _ ) lk_X5_82 rfl rfl (Nat.le_of_ble_eq_true rfl) ⟨Nat.le_of_ble_eq_true rfl, Nat.le_of_ble_eq_true rfl⟩ rfl rfl ⟨Nat.zero_le _, Nat.zero_le _⟩ dX5_howOften_2 (fun H locs hP hS => ?_)
  refine z_topi (y := 1) (zc1 hi) ?_
  refine lv_if_ne (tgt := 12) hx hb dX5_howOften_5 (by decide) (fun c_5 => ?_) (fun c_5 => absurd c_5 (by decide))
  refine lv_iload_n hx hb dX5_howOften_12 rfl (lv_at hl 2 rfl) ?_
  refine lv_iconst (v := 1) hx hb dX5_howOften_13 (by decide) ?_
  refine lv_ldc hx hb hown (hts _ q824) dX5_howOften_14 ?_
  refine z_Si_eq (As := [.int num, .int 1, .int 999999]) (rest := [.ref (ad n)]) C0 hP hS hl.1 (m_X5_in l _ ) lk_X5_39 rfl rfl (Nat.le_of_ble_eq_true rfl) ⟨Nat.le_of_ble_eq_true rfl, Nat.le_of_ble_eq_true rfl⟩ rfl rfl ⟨Nat.zero_le _, Nat.zero_le _⟩ dX5_howOften_16 (fun H locs hP hS => ?_)
  refine z_topi (y := 1) (if_pos ⟨Int32.not_lt.mp hn1, hn2⟩) ?_
  refine lv_if_ne (tgt := 26) hx hb dX5_howOften_19 (by decide) (fun c_19 => ?_) (fun c_19 => absurd c_19 (by decide))
  refine lv_iconst (v := 0) hx hb dX5_howOften_26 (by decide) ?_
  refine z_Vi_mo (As := [.int 0]) (rest := []) C0 hP hS hl.1 (m_X5_holds l _ hM) lk_X5_86 hM.n0 hM.o rfl rfl (Nat.le_of_ble_eq_true rfl) ⟨Nat.le_of_ble_eq_true rfl, Nat.le_of_ble_eq_true rfl⟩ rfl rfl ⟨Nat.zero_le _, Nat.zero_le _⟩ dX5_howOften_27 (fun r_27 g_1 H locs hP hS hp => ?_)
  obtain ⟨hr_27, hM, hF1⟩ := hp
  subst hr_27
  have hFr := hFr.tr (hF1.mono (by intro x9 hx9; first | (dsimp only [zOne, zRg, zCl] at hx9 ⊢; omega) | (dsimp only at hx9 ⊢; omega) | omega))
  refine z_topi (y := 1) (if_pos rfl) ?_
  refine lv_if_eq (tgt := 42) hx hb dX5_howOften_30 (by decide) (fun c_30 => absurd c_30 (by decide)) (fun c_30 => ?_)
  refine lv_aload_n hx hb dX5_howOften_33 rfl (lv_at hl 0 rfl) ?_
  refine lv_iload_n hx hb dX5_howOften_34 rfl (lv_at hl 1 rfl) ?_
  refine lv_iload_n hx hb dX5_howOften_35 rfl (lv_at hl 2 rfl) ?_
  refine z_Vi_mo (As := [.int (nI iz), .int num]) (rest := []) C0 hP hS hl.1 (m_X5_times l _ hM hi hpc hge) lk_X5_155 hM.n0 hM.o rfl rfl (Nat.le_of_ble_eq_true rfl) ⟨Nat.le_of_ble_eq_true rfl, Nat.le_of_ble_eq_true rfl⟩ rfl rfl ⟨Nat.zero_le _, Nat.zero_le _⟩ dX5_howOften_36 (fun r_36 g_2 H locs hP hS hp => ?_)
  obtain ⟨hr_36, ⟨az1, kn1, lo1, hM⟩, hF1⟩ := hp
  subst hr_36
  have hFr := hFr.tr (hF1.mono (by intro x9 hx9; first | (dsimp only [zOne, zRg, zCl] at hx9 ⊢; omega) | (dsimp only at hx9 ⊢; omega) | omega))
  refine lv_goto (tgt := 43) hx hb dX5_howOften_39 (by decide) ?_
  exact z_iret C0 hP hS hr (⟨rfl, ⟨_, _, _, hM⟩, hFr⟩) dX5_howOften_43
set_option maxHeartbeats 4000000 in
set_option maxRecDepth 100000 in
theorem m_X5_keepb1 (l : Launch) {D : va_G} {cy : Nat → ClassId} {K : Nat} {ad : Nat → Nat} {g : Nat → va_E} (sz : Nat) {n : Nat} {sx az so ik sv tx kn lo : Nat → Int32} {th sm lz : Int32} {dg : Int64} {xz : Int32} (hM : isM cy K ad g n sx az so ik sv tx kn lo th sm lz dg) (hbd : xz < 0 ∨ 2 ≤ xz) : Met l yX5_keep (zs yX5_keep cX5_keep 3 (some .int)) ({ frames := 4, cells := 0, slots := 0, locals := 88 } : Room) (va_Pc [.ref (ad n), .int xz] (zIn D cy K ad g sz)) (va_Qi (fun r g1 => r = 0 ∧ isM cy K ad g1 n sx az so ik sv tx kn lo 1 sm lz dg ∧ zFr (zRg n (n + 9)) g g1) (zOut D cy K ad sz) (zA K ad sz)) 0 0 (zA K ad sz) := by
  refine z_met (by decide) (Nat.le_of_ble_eq_true rfl) (fun p e s m below meth c ls hsz hl C0 hr hnm hP hS => ?_)
  subst hsz
  have hl : lv_has ls 3 [(0, .ref (ad n)), (1, .int xz)] := hl
  have hx := C0.1; have hb := C0.2.1; have hown := C0.2.2.2.1; have hts := C0.2.2.2.2.1
  have hFr : zFr (zRg n (n + 9)) g g := zFr.rf
  refine lv_aload_n hx hb dX5_keep_0 rfl (lv_at hl 0 rfl) ?_
  refine lv_iload_n hx hb dX5_keep_1 rfl (lv_at hl 1 rfl) ?_
  refine lv_iconst (v := 0) hx hb dX5_keep_2 (by decide) ?_
  refine lv_iconst (v := 1) hx hb dX5_keep_3 (by decide) ?_
  refine z_Si_eq (As := [.int xz, .int 0, .int 1]) (rest := [.ref (ad n)]) C0 hP hS hl.1 (m_X5_in l _ ) lk_X5_39 rfl rfl (Nat.le_of_ble_eq_true rfl) ⟨Nat.le_of_ble_eq_true rfl, Nat.le_of_ble_eq_true rfl⟩ rfl rfl ⟨Nat.zero_le _, Nat.zero_le _⟩ dX5_keep_4 (fun H locs hP hS => ?_)
  refine z_topi (y := 0) (zin0 hbd rfl) ?_
  refine lv_if_eq (tgt := 14) hx hb dX5_keep_7 (by decide) (fun c_7 => ?_) (fun c_7 => absurd c_7 (by decide))
  refine lv_iconst (v := 1) hx hb dX5_keep_14 (by decide) ?_
  refine z_Vi_mo (As := [.int 1]) (rest := []) C0 hP hS hl.1 (m_X5_holds l _ hM) lk_X5_86 hM.n0 hM.o rfl rfl (Nat.le_of_ble_eq_true rfl) ⟨Nat.le_of_ble_eq_true rfl, Nat.le_of_ble_eq_true rfl⟩ rfl rfl ⟨Nat.zero_le _, Nat.zero_le _⟩ dX5_keep_15 (fun r_15 g_1 H locs hP hS hp => ?_)
  obtain ⟨hr_15, hM, hF1⟩ := hp
  subst hr_15
  have hFr := hFr.tr (hF1.mono (by intro x9 hx9; first | (dsimp only [zOne, zRg, zCl] at hx9 ⊢; omega) | (dsimp only at hx9 ⊢; omega) | omega))
  refine z_topi (y := 0) (if_neg (by decide)) ?_
  refine lv_if_ne (tgt := 23) hx hb dX5_keep_18 (by decide) (fun c_18 => absurd c_18 (by decide)) (fun c_18 => ?_)
  refine lv_iconst (v := 0) hx hb dX5_keep_21 (by decide) ?_
  exact z_iret C0 hP hS hr (⟨rfl, hM, hFr⟩) dX5_keep_22
set_option maxHeartbeats 4000000 in
set_option maxRecDepth 100000 in
theorem m_X5_goBackb1 (l : Launch) {D : va_G} {cy : Nat → ClassId} {K : Nat} {ad : Nat → Nat} {g : Nat → va_E} (sz : Nat) {n : Nat} {sx az so ik sv tx kn lo : Nat → Int32} {th sm lz : Int32} {dg : Int64} {xz : Int32} (hM : isM cy K ad g n sx az so ik sv tx kn lo th sm lz dg) (hbd : xz < 0 ∨ 2 ≤ xz) : Met l yX5_goBack (zs yX5_goBack cX5_goBack 4 (some .int)) ({ frames := 4, cells := 0, slots := 0, locals := 88 } : Room) (va_Pc [.ref (ad n), .int xz] (zIn D cy K ad g sz)) (va_Qi (fun r g1 => r = 0 ∧ isM cy K ad g1 n sx az so ik sv tx kn lo 1 sm lz dg ∧ zFr (zRg n (n + 9)) g g1) (zOut D cy K ad sz) (zA K ad sz)) 0 0 (zA K ad sz) := by
  refine z_met (by decide) (Nat.le_of_ble_eq_true rfl) (fun p e s m below meth c ls hsz hl C0 hr hnm hP hS => ?_)
  subst hsz
  have hl : lv_has ls 4 [(0, .ref (ad n)), (1, .int xz)] := hl
  have hx := C0.1; have hb := C0.2.1; have hown := C0.2.2.2.1; have hts := C0.2.2.2.2.1
  have hFr : zFr (zRg n (n + 9)) g g := zFr.rf
  refine lv_iload_n hx hb dX5_goBack_0 rfl (lv_at hl 1 rfl) ?_
  refine lv_iconst (v := 0) hx hb dX5_goBack_1 (by decide) ?_
  refine lv_iconst (v := 1) hx hb dX5_goBack_2 (by decide) ?_
  refine z_Si_eq (As := [.int xz, .int 0, .int 1]) (rest := []) C0 hP hS hl.1 (m_X5_in l _ ) lk_X5_39 rfl rfl (Nat.le_of_ble_eq_true rfl) ⟨Nat.le_of_ble_eq_true rfl, Nat.le_of_ble_eq_true rfl⟩ rfl rfl ⟨Nat.zero_le _, Nat.zero_le _⟩ dX5_goBack_3 (fun H locs hP hS => ?_)
  refine z_topi (y := 0) (zin0 hbd rfl) ?_
  refine lv_istore_n (lv' := [(2, .int 0), (0, .ref (ad n)), (1, .int xz)]) hx hb dX5_goBack_6 rfl hl (by decide) rfl (fun ls hl => ?_)
  refine lv_aload_n hx hb dX5_goBack_7 rfl (lv_at hl 1 rfl) ?_
  refine lv_iload_n hx hb dX5_goBack_8 rfl (lv_at hl 0 rfl) ?_
  refine lv_if_ne (tgt := 16) hx hb dX5_goBack_9 (by decide) (fun c_9 => absurd c_9 (by decide)) (fun c_9 => ?_)
  refine lv_iconst (v := 1) hx hb dX5_goBack_12 (by decide) ?_
  refine lv_goto (tgt := 30) hx hb dX5_goBack_13 (by decide) ?_
  refine z_Vi_mo (As := [.int 1]) (rest := []) C0 hP hS hl.1 (m_X5_holds l _ hM) lk_X5_86 hM.n0 hM.o rfl rfl (Nat.le_of_ble_eq_true rfl) ⟨Nat.le_of_ble_eq_true rfl, Nat.le_of_ble_eq_true rfl⟩ rfl rfl ⟨Nat.zero_le _, Nat.zero_le _⟩ dX5_goBack_30 (fun r_30 g_1 H locs hP hS hp => ?_)
  obtain ⟨hr_30, hM, hF1⟩ := hp
  subst hr_30
  have hFr := hFr.tr (hF1.mono (by intro x9 hx9; first | (dsimp only [zOne, zRg, zCl] at hx9 ⊢; omega) | (dsimp only at hx9 ⊢; omega) | omega))
  refine z_topi (y := 0) (if_neg (by decide)) ?_
  refine lv_if_ne (tgt := 38) hx hb dX5_goBack_33 (by decide) (fun c_33 => absurd c_33 (by decide)) (fun c_33 => ?_)
  refine lv_iconst (v := 0) hx hb dX5_goBack_36 (by decide) ?_
  exact z_iret C0 hP hS hr (⟨rfl, hM, hFr⟩) dX5_goBack_37
set_option maxHeartbeats 4000000 in
set_option maxRecDepth 100000 in
theorem m_X5_goBackb2 (l : Launch) {D : va_G} {cy : Nat → ClassId} {K : Nat} {ad : Nat → Nat} {g : Nat → va_E} (sz : Nat) {n : Nat} {sx az so ik sv tx kn lo : Nat → Int32} {th sm lz : Int32} {dg : Int64} {jz : Nat} (hM : isM cy K ad g n sx az so ik sv tx kn lo th sm lz dg) (hj : jz < 2) (hik : ik jz = 0) : Met l yX5_goBack (zs yX5_goBack cX5_goBack 4 (some .int)) ({ frames := 4, cells := 0, slots := 0, locals := 88 } : Room) (va_Pc [.ref (ad n), .int (nI jz)] (zIn D cy K ad g sz)) (va_Qi (fun r g1 => r = 0 ∧ isM cy K ad g1 n sx az so ik sv tx kn lo 2 sm lz dg ∧ zFr (zRg n (n + 9)) g g1) (zOut D cy K ad sz) (zA K ad sz)) 0 0 (zA K ad sz) := by
  refine z_met (by decide) (Nat.le_of_ble_eq_true rfl) (fun p e s m below meth c ls hsz hl C0 hr hnm hP hS => ?_)
  subst hsz
  have hl : lv_has ls 4 [(0, .ref (ad n)), (1, .int (nI jz))] := hl
  have hx := C0.1; have hb := C0.2.1; have hown := C0.2.2.2.1; have hts := C0.2.2.2.2.1
  have hFr : zFr (zRg n (n + 9)) g g := zFr.rf
  refine lv_iload_n hx hb dX5_goBack_0 rfl (lv_at hl 1 rfl) ?_
  refine lv_iconst (v := 0) hx hb dX5_goBack_1 (by decide) ?_
  refine lv_iconst (v := 1) hx hb dX5_goBack_2 (by decide) ?_
  refine z_Si_eq (As := [.int (nI jz), .int 0, .int 1]) (rest := []) C0 hP hS hl.1 (m_X5_in l _ ) lk_X5_39 rfl rfl (Nat.le_of_ble_eq_true rfl) ⟨Nat.le_of_ble_eq_true rfl, Nat.le_of_ble_eq_true rfl⟩ rfl rfl ⟨Nat.zero_le _, Nat.zero_le _⟩ dX5_goBack_3 (fun H locs hP hS => ?_)
  refine z_topi (y := 1) (zc1' (m := 1) (by omega) (by decide)) ?_
  refine lv_istore_n (lv' := [(2, .int 1), (0, .ref (ad n)), (1, .int (nI jz))]) hx hb dX5_goBack_6 rfl hl (by decide) rfl (fun ls hl => ?_)
  refine lv_aload_n hx hb dX5_goBack_7 rfl (lv_at hl 1 rfl) ?_
  refine lv_iload_n hx hb dX5_goBack_8 rfl (lv_at hl 0 rfl) ?_
  refine lv_if_ne (tgt := 16) hx hb dX5_goBack_9 (by decide) (fun c_9 => ?_) (fun c_9 => absurd c_9 (by decide))
  refine lv_aload_n hx hb dX5_goBack_16 rfl (lv_at hl 1 rfl) ?_
  refine z_get C0 hP hM.n0 hM.o fd_X5_19 rfl dX5_goBack_17 ?_
  refine lv_iload_n hx hb dX5_goBack_20 rfl (lv_at hl 2 rfl) ?_
  refine z_zald C0 hP hM.n4 hM.a_ik (zIx_nI (by omega) (by decide)) dX5_goBack_21 ?_
  refine z_topi (y := 0) hik ?_
  refine lv_if_ne (tgt := 29) hx hb dX5_goBack_22 (by decide) (fun c_22 => absurd c_22 (by decide)) (fun c_22 => ?_)
  refine lv_iconst (v := 2) hx hb dX5_goBack_25 (by decide) ?_
  refine lv_goto (tgt := 30) hx hb dX5_goBack_26 (by decide) ?_
  refine z_Vi_mo (As := [.int 2]) (rest := []) C0 hP hS hl.1 (m_X5_holds l _ hM) lk_X5_86 hM.n0 hM.o rfl rfl (Nat.le_of_ble_eq_true rfl) ⟨Nat.le_of_ble_eq_true rfl, Nat.le_of_ble_eq_true rfl⟩ rfl rfl ⟨Nat.zero_le _, Nat.zero_le _⟩ dX5_goBack_30 (fun r_30 g_1 H locs hP hS hp => ?_)
  obtain ⟨hr_30, hM, hF1⟩ := hp
  subst hr_30
  have hFr := hFr.tr (hF1.mono (by intro x9 hx9; first | (dsimp only [zOne, zRg, zCl] at hx9 ⊢; omega) | (dsimp only at hx9 ⊢; omega) | omega))
  refine z_topi (y := 0) (if_neg (by decide)) ?_
  refine lv_if_ne (tgt := 38) hx hb dX5_goBack_33 (by decide) (fun c_33 => absurd c_33 (by decide)) (fun c_33 => ?_)
  refine lv_iconst (v := 0) hx hb dX5_goBack_36 (by decide) ?_
  exact z_iret C0 hP hS hr (⟨rfl, hM, hFr⟩) dX5_goBack_37
set_option maxHeartbeats 4000000 in
set_option maxRecDepth 100000 in
theorem m_X5_undob1 (l : Launch) {D : va_G} {cy : Nat → ClassId} {K : Nat} {ad : Nat → Nat} {g : Nat → va_E} (sz : Nat) {n : Nat} {sx az so ik sv tx kn lo : Nat → Int32} {th lz : Int32} {dg : Int64} (hM : isM cy K ad g n sx az so ik sv tx kn lo th 0 lz dg) : Met l yX5_undo (zs yX5_undo cX5_undo 2 (some .int)) ({ frames := 1, cells := 0, slots := 0, locals := 21 } : Room) (va_Pc [.ref (ad n)] (zIn D cy K ad g sz)) (va_Qi (fun r g1 => r = 0 ∧ isM cy K ad g1 n sx az so ik sv tx kn lo 1 0 lz dg ∧ zFr (zRg n (n + 9)) g g1) (zOut D cy K ad sz) (zA K ad sz)) 0 0 (zA K ad sz) := by
  refine z_met (by decide) (Nat.le_of_ble_eq_true rfl) (fun p e s m below meth c ls hsz hl C0 hr hnm hP hS => ?_)
  subst hsz
  have hl : lv_has ls 2 [(0, .ref (ad n))] := hl
  have hx := C0.1; have hb := C0.2.1; have hown := C0.2.2.2.1; have hts := C0.2.2.2.2.1
  have hFr : zFr (zRg n (n + 9)) g g := zFr.rf
  refine lv_aload_n hx hb dX5_undo_0 rfl (lv_at hl 0 rfl) ?_
  refine lv_aload_n hx hb dX5_undo_1 rfl (lv_at hl 0 rfl) ?_
  refine z_get C0 hP hM.n0 hM.o fd_X5_47 rfl dX5_undo_2 ?_
  refine lv_if_le (tgt := 12) hx hb dX5_undo_5 (by decide) (fun c_5 => ?_) (fun c_5 => absurd c_5 (by decide))
  refine lv_iconst (v := 1) hx hb dX5_undo_12 (by decide) ?_
  refine z_Vi_mo (As := [.int 1]) (rest := []) C0 hP hS hl.1 (m_X5_holds l _ hM) lk_X5_86 hM.n0 hM.o rfl rfl (Nat.le_of_ble_eq_true rfl) ⟨Nat.le_of_ble_eq_true rfl, Nat.le_of_ble_eq_true rfl⟩ rfl rfl ⟨Nat.zero_le _, Nat.zero_le _⟩ dX5_undo_13 (fun r_13 g_1 H locs hP hS hp => ?_)
  obtain ⟨hr_13, hM, hF1⟩ := hp
  subst hr_13
  have hFr := hFr.tr (hF1.mono (by intro x9 hx9; first | (dsimp only [zOne, zRg, zCl] at hx9 ⊢; omega) | (dsimp only at hx9 ⊢; omega) | omega))
  refine z_topi (y := 0) (if_neg (by decide)) ?_
  refine lv_if_ne (tgt := 21) hx hb dX5_undo_16 (by decide) (fun c_16 => absurd c_16 (by decide)) (fun c_16 => ?_)
  refine lv_iconst (v := 0) hx hb dX5_undo_19 (by decide) ?_
  exact z_iret C0 hP hS hr (⟨rfl, hM, hFr⟩) dX5_undo_20
set_option maxHeartbeats 4000000 in
set_option maxRecDepth 100000 in
theorem m_X5_partb1 (l : Launch) {D : va_G} {cy : Nat → ClassId} {K : Nat} {ad : Nat → Nat} {g : Nat → va_E} (sz : Nat) {n : Nat} {sx az so ik sv tx kn lo : Nat → Int32} {th sm lz : Int32} {dg : Int64} {xz yz : Int32} (hM : isM cy K ad g n sx az so ik sv tx kn lo th sm lz dg) (hbd : xz < 0 ∨ 7 ≤ xz) : Met l yX5_part (zs yX5_part cX5_part 3 (some .int)) ({ frames := 2, cells := 0, slots := 0, locals := 43 } : Room) (va_Pc [.ref (ad n), .int xz, .int yz] (zIn D cy K ad g sz)) (va_Qi (fun r g1 => r = 0 ∧ isM cy K ad g1 n sx az so ik sv tx kn lo 1 sm lz dg ∧ zFr (zRg n (n + 9)) g g1) (zOut D cy K ad sz) (zA K ad sz)) 0 0 (zA K ad sz) := by
  refine z_met (by decide) (Nat.le_of_ble_eq_true rfl) (fun p e s m below meth c ls hsz hl C0 hr hnm hP hS => ?_)
  subst hsz
  have hl : lv_has ls 3 [(0, .ref (ad n)), (1, .int xz), (2, .int yz)] := hl
  have hx := C0.1; have hb := C0.2.1; have hown := C0.2.2.2.1; have hts := C0.2.2.2.2.1
  have hFr : zFr (zRg n (n + 9)) g g := zFr.rf
  refine lv_aload_n hx hb dX5_part_0 rfl (lv_at hl 0 rfl) ?_
  refine lv_iload_n hx hb dX5_part_1 rfl (lv_at hl 1 rfl) ?_
  refine z_Si_eq (As := [.int xz]) (rest := [.ref (ad n)]) C0 hP hS hl.1 (m_X5_isCord l _ ) lk_X5_82 rfl rfl (Nat.le_of_ble_eq_true rfl) ⟨Nat.le_of_ble_eq_true rfl, Nat.le_of_ble_eq_true rfl⟩ rfl rfl ⟨Nat.zero_le _, Nat.zero_le _⟩ dX5_part_2 (fun H locs hP hS => ?_)
  refine z_topi (y := 0) (zin0 hbd rfl) ?_
  refine lv_if_ne (tgt := 12) hx hb dX5_part_5 (by decide) (fun c_5 => absurd c_5 (by decide)) (fun c_5 => ?_)
  refine lv_iconst (v := 1) hx hb dX5_part_8 (by decide) ?_
  refine lv_goto (tgt := 21) hx hb dX5_part_9 (by decide) ?_
  refine z_Vi_mo (As := [.int 1]) (rest := []) C0 hP hS hl.1 (m_X5_holds l _ hM) lk_X5_86 hM.n0 hM.o rfl rfl (Nat.le_of_ble_eq_true rfl) ⟨Nat.le_of_ble_eq_true rfl, Nat.le_of_ble_eq_true rfl⟩ rfl rfl ⟨Nat.zero_le _, Nat.zero_le _⟩ dX5_part_21 (fun r_21 g_1 H locs hP hS hp => ?_)
  obtain ⟨hr_21, hM, hF1⟩ := hp
  subst hr_21
  have hFr := hFr.tr (hF1.mono (by intro x9 hx9; first | (dsimp only [zOne, zRg, zCl] at hx9 ⊢; omega) | (dsimp only at hx9 ⊢; omega) | omega))
  refine z_topi (y := 0) (if_neg (by decide)) ?_
  refine lv_if_ne (tgt := 29) hx hb dX5_part_24 (by decide) (fun c_24 => absurd c_24 (by decide)) (fun c_24 => ?_)
  refine lv_iconst (v := 0) hx hb dX5_part_27 (by decide) ?_
  exact z_iret C0 hP hS hr (⟨rfl, hM, hFr⟩) dX5_part_28
set_option maxHeartbeats 4000000 in
set_option maxRecDepth 100000 in
theorem m_X5_partb2 (l : Launch) {D : va_G} {cy : Nat → ClassId} {K : Nat} {ad : Nat → Nat} {g : Nat → va_E} (sz : Nat) {n : Nat} {sx az so ik sv tx kn lo : Nat → Int32} {th sm lz : Int32} {dg : Int64} {iz : Nat} {rz : Int32} (hM : isM cy K ad g n sx az so ik sv tx kn lo th sm lz dg) (hi : iz < 7) (hr0 : rz < 0) : Met l yX5_part (zs yX5_part cX5_part 3 (some .int)) ({ frames := 2, cells := 0, slots := 0, locals := 43 } : Room) (va_Pc [.ref (ad n), .int (nI iz), .int rz] (zIn D cy K ad g sz)) (va_Qi (fun r g1 => r = 0 ∧ isM cy K ad g1 n sx az so ik sv tx kn lo 2 sm lz dg ∧ zFr (zRg n (n + 9)) g g1) (zOut D cy K ad sz) (zA K ad sz)) 0 0 (zA K ad sz) := by
  refine z_met (by decide) (Nat.le_of_ble_eq_true rfl) (fun p e s m below meth c ls hsz hl C0 hr hnm hP hS => ?_)
  subst hsz
  have hl : lv_has ls 3 [(0, .ref (ad n)), (1, .int (nI iz)), (2, .int rz)] := hl
  have hx := C0.1; have hb := C0.2.1; have hown := C0.2.2.2.1; have hts := C0.2.2.2.2.1
  have hFr : zFr (zRg n (n + 9)) g g := zFr.rf
  refine lv_aload_n hx hb dX5_part_0 rfl (lv_at hl 0 rfl) ?_
  refine lv_iload_n hx hb dX5_part_1 rfl (lv_at hl 1 rfl) ?_
  refine z_Si_eq (As := [.int (nI iz)]) (rest := [.ref (ad n)]) C0 hP hS hl.1 (m_X5_isCord l _ ) lk_X5_82 rfl rfl (Nat.le_of_ble_eq_true rfl) ⟨Nat.le_of_ble_eq_true rfl, Nat.le_of_ble_eq_true rfl⟩ rfl rfl ⟨Nat.zero_le _, Nat.zero_le _⟩ dX5_part_2 (fun H locs hP hS => ?_)
  refine z_topi (y := 1) (zc1 hi) ?_
  refine lv_if_ne (tgt := 12) hx hb dX5_part_5 (by decide) (fun c_5 => ?_) (fun c_5 => absurd c_5 (by decide))
  refine lv_iload_n hx hb dX5_part_12 rfl (lv_at hl 2 rfl) ?_
  refine lv_if_ge (tgt := 20) hx hb dX5_part_13 (by decide) (fun c_13 => absurd hr0 (Int32.not_lt.mpr c_13)) (fun c_13 => ?_)
  refine lv_iconst (v := 2) hx hb dX5_part_16 (by decide) ?_
  refine lv_goto (tgt := 21) hx hb dX5_part_17 (by decide) ?_
  refine z_Vi_mo (As := [.int 2]) (rest := []) C0 hP hS hl.1 (m_X5_holds l _ hM) lk_X5_86 hM.n0 hM.o rfl rfl (Nat.le_of_ble_eq_true rfl) ⟨Nat.le_of_ble_eq_true rfl, Nat.le_of_ble_eq_true rfl⟩ rfl rfl ⟨Nat.zero_le _, Nat.zero_le _⟩ dX5_part_21 (fun r_21 g_1 H locs hP hS hp => ?_)
  obtain ⟨hr_21, hM, hF1⟩ := hp
  subst hr_21
  have hFr := hFr.tr (hF1.mono (by intro x9 hx9; first | (dsimp only [zOne, zRg, zCl] at hx9 ⊢; omega) | (dsimp only at hx9 ⊢; omega) | omega))
  refine z_topi (y := 0) (if_neg (by decide)) ?_
  refine lv_if_ne (tgt := 29) hx hb dX5_part_24 (by decide) (fun c_24 => absurd c_24 (by decide)) (fun c_24 => ?_)
  refine lv_iconst (v := 0) hx hb dX5_part_27 (by decide) ?_
  exact z_iret C0 hP hS hr (⟨rfl, hM, hFr⟩) dX5_part_28
set_option maxHeartbeats 4000000 in
set_option maxRecDepth 100000 in
theorem m_X5_countb1 (l : Launch) {D : va_G} {cy : Nat → ClassId} {K : Nat} {ad : Nat → Nat} {g : Nat → va_E} (sz : Nat) {n : Nat} {sx az so ik sv tx kn lo : Nat → Int32} {th sm lz : Int32} {dg : Int64} {xz : Int32} (hM : isM cy K ad g n sx az so ik sv tx kn lo th sm lz dg) (hbd : xz < 0 ∨ 10 ≤ xz) : Met l yX5_count (zs yX5_count cX5_count 2 (some .int)) ({ frames := 7, cells := 0, slots := 0, locals := 153 } : Room) (va_Pc [.ref (ad n), .int xz] (zIn D cy K ad g sz)) (va_Qi (fun r g1 => r = 0 ∧ isM cy K ad g1 n sx az so ik sv tx kn lo 1 sm lz dg ∧ zFr (zRg n (n + 9)) g g1) (zOut D cy K ad sz) (zA K ad sz)) 0 0 (zA K ad sz) := by
  refine z_met (by decide) (Nat.le_of_ble_eq_true rfl) (fun p e s m below meth c ls hsz hl C0 hr hnm hP hS => ?_)
  subst hsz
  have hl : lv_has ls 2 [(0, .ref (ad n)), (1, .int xz)] := hl
  have hx := C0.1; have hb := C0.2.1; have hown := C0.2.2.2.1; have hts := C0.2.2.2.2.1
  have hFr : zFr (zRg n (n + 9)) g g := zFr.rf
  refine lv_aload_n hx hb dX5_count_0 rfl (lv_at hl 0 rfl) ?_
  refine lv_iload_n hx hb dX5_count_1 rfl (lv_at hl 1 rfl) ?_
  refine lv_iconst (v := 0) hx hb dX5_count_2 (by decide) ?_
  refine lv_bipush (v := 9) hx hb dX5_count_3 (by decide) ?_
  refine z_Si_eq (As := [.int xz, .int 0, .int 9]) (rest := [.ref (ad n)]) C0 hP hS hl.1 (m_X5_in l _ ) lk_X5_39 rfl rfl (Nat.le_of_ble_eq_true rfl) ⟨Nat.le_of_ble_eq_true rfl, Nat.le_of_ble_eq_true rfl⟩ rfl rfl ⟨Nat.zero_le _, Nat.zero_le _⟩ dX5_count_5 (fun H locs hP hS => ?_)
  refine z_topi (y := 0) (zin0 hbd rfl) ?_
  refine lv_if_eq (tgt := 15) hx hb dX5_count_8 (by decide) (fun c_8 => ?_) (fun c_8 => absurd c_8 (by decide))
  refine lv_iconst (v := 1) hx hb dX5_count_15 (by decide) ?_
  refine z_Vi_mo (As := [.int 1]) (rest := []) C0 hP hS hl.1 (m_X5_holds l _ hM) lk_X5_86 hM.n0 hM.o rfl rfl (Nat.le_of_ble_eq_true rfl) ⟨Nat.le_of_ble_eq_true rfl, Nat.le_of_ble_eq_true rfl⟩ rfl rfl ⟨Nat.zero_le _, Nat.zero_le _⟩ dX5_count_16 (fun r_16 g_1 H locs hP hS hp => ?_)
  obtain ⟨hr_16, hM, hF1⟩ := hp
  subst hr_16
  have hFr := hFr.tr (hF1.mono (by intro x9 hx9; first | (dsimp only [zOne, zRg, zCl] at hx9 ⊢; omega) | (dsimp only at hx9 ⊢; omega) | omega))
  refine z_topi (y := 0) (if_neg (by decide)) ?_
  refine lv_if_eq (tgt := 30) hx hb dX5_count_19 (by decide) (fun c_19 => ?_) (fun c_19 => absurd c_19 (by decide))
  refine lv_iconst (v := 0) hx hb dX5_count_30 (by decide) ?_
  exact z_iret C0 hP hS hr (⟨rfl, hM, hFr⟩) dX5_count_31
set_option maxHeartbeats 4000000 in
set_option maxRecDepth 100000 in
theorem m_X5_byHueb1 (l : Launch) {D : va_G} {cy : Nat → ClassId} {K : Nat} {ad : Nat → Nat} {g : Nat → va_E} (sz : Nat) {n : Nat} {sx az so ik sv tx kn lo : Nat → Int32} {th sm lz : Int32} {dg : Int64} {xz : Int32} (hM : isM cy K ad g n sx az so ik sv tx kn lo th sm lz dg) (hbd : xz < 0 ∨ 6 ≤ xz) : Met l yX5_byHue (zs yX5_byHue cX5_byHue 2 (some .int)) ({ frames := 5, cells := 0, slots := 0, locals := 111 } : Room) (va_Pc [.ref (ad n), .int xz] (zIn D cy K ad g sz)) (va_Qi (fun r g1 => r = 0 ∧ isM cy K ad g1 n sx az so ik sv tx kn lo 1 sm lz dg ∧ zFr (zRg n (n + 9)) g g1) (zOut D cy K ad sz) (zA K ad sz)) 0 0 (zA K ad sz) := by
  refine z_met (by decide) (Nat.le_of_ble_eq_true rfl) (fun p e s m below meth c ls hsz hl C0 hr hnm hP hS => ?_)
  subst hsz
  have hl : lv_has ls 2 [(0, .ref (ad n)), (1, .int xz)] := hl
  have hx := C0.1; have hb := C0.2.1; have hown := C0.2.2.2.1; have hts := C0.2.2.2.2.1
  have hFr : zFr (zRg n (n + 9)) g g := zFr.rf
  refine lv_aload_n hx hb dX5_byHue_0 rfl (lv_at hl 0 rfl) ?_
  refine lv_iload_n hx hb dX5_byHue_1 rfl (lv_at hl 1 rfl) ?_
  refine lv_iconst (v := 0) hx hb dX5_byHue_2 (by decide) ?_
  refine lv_iconst (v := 5) hx hb dX5_byHue_3 (by decide) ?_
  refine z_Si_eq (As := [.int xz, .int 0, .int 5]) (rest := [.ref (ad n)]) C0 hP hS hl.1 (m_X5_in l _ ) lk_X5_39 rfl rfl (Nat.le_of_ble_eq_true rfl) ⟨Nat.le_of_ble_eq_true rfl, Nat.le_of_ble_eq_true rfl⟩ rfl rfl ⟨Nat.zero_le _, Nat.zero_le _⟩ dX5_byHue_4 (fun H locs hP hS => ?_)
  refine z_topi (y := 0) (zin0 hbd rfl) ?_
  refine lv_if_eq (tgt := 14) hx hb dX5_byHue_7 (by decide) (fun c_7 => ?_) (fun c_7 => absurd c_7 (by decide))
  refine lv_iconst (v := 1) hx hb dX5_byHue_14 (by decide) ?_
  refine z_Vi_mo (As := [.int 1]) (rest := []) C0 hP hS hl.1 (m_X5_holds l _ hM) lk_X5_86 hM.n0 hM.o rfl rfl (Nat.le_of_ble_eq_true rfl) ⟨Nat.le_of_ble_eq_true rfl, Nat.le_of_ble_eq_true rfl⟩ rfl rfl ⟨Nat.zero_le _, Nat.zero_le _⟩ dX5_byHue_15 (fun r_15 g_1 H locs hP hS hp => ?_)
  obtain ⟨hr_15, hM, hF1⟩ := hp
  subst hr_15
  have hFr := hFr.tr (hF1.mono (by intro x9 hx9; first | (dsimp only [zOne, zRg, zCl] at hx9 ⊢; omega) | (dsimp only at hx9 ⊢; omega) | omega))
  refine z_topi (y := 0) (if_neg (by decide)) ?_
  refine lv_if_eq (tgt := 29) hx hb dX5_byHue_18 (by decide) (fun c_18 => ?_) (fun c_18 => absurd c_18 (by decide))
  refine lv_iconst (v := 0) hx hb dX5_byHue_29 (by decide) ?_
  exact z_iret C0 hP hS hr (⟨rfl, hM, hFr⟩) dX5_byHue_30
set_option maxHeartbeats 4000000 in
set_option maxRecDepth 100000 in
theorem m_X5_whyNotb1 (l : Launch) {D : va_G} {cy : Nat → ClassId} {K : Nat} {ad : Nat → Nat} {g : Nat → va_E} (sz : Nat) {n : Nat} {sx az so ik sv tx kn lo : Nat → Int32} {th sm lz : Int32} {dg : Int64} {xz num : Int32} (hM : isM cy K ad g n sx az so ik sv tx kn lo th sm lz dg) (hbd : xz < 0 ∨ 7 ≤ xz) : Met l yX5_whyNot (zs yX5_whyNot cX5_whyNot 3 (some .int)) ({ frames := 6, cells := 0, slots := 0, locals := 138 } : Room) (va_Pc [.ref (ad n), .int xz, .int num] (zIn D cy K ad g sz)) (va_Qi (fun r g1 => r = 0 ∧ isM cy K ad g1 n sx az so ik sv tx kn lo 1 sm lz dg ∧ zFr (zRg n (n + 9)) g g1) (zOut D cy K ad sz) (zA K ad sz)) 0 0 (zA K ad sz) := by
  refine z_met (by decide) (Nat.le_of_ble_eq_true rfl) (fun p e s m below meth c ls hsz hl C0 hr hnm hP hS => ?_)
  subst hsz
  have hl : lv_has ls 3 [(0, .ref (ad n)), (1, .int xz), (2, .int num)] := hl
  have hx := C0.1; have hb := C0.2.1; have hown := C0.2.2.2.1; have hts := C0.2.2.2.2.1
  have hFr : zFr (zRg n (n + 9)) g g := zFr.rf
  refine lv_aload_n hx hb dX5_whyNot_0 rfl (lv_at hl 0 rfl) ?_
  refine lv_iload_n hx hb dX5_whyNot_1 rfl (lv_at hl 1 rfl) ?_
  refine z_Si_eq (As := [.int xz]) (rest := [.ref (ad n)]) C0 hP hS hl.1 (m_X5_isCord l _ ) lk_X5_82 rfl rfl (Nat.le_of_ble_eq_true rfl) ⟨Nat.le_of_ble_eq_true rfl, Nat.le_of_ble_eq_true rfl⟩ rfl rfl ⟨Nat.zero_le _, Nat.zero_le _⟩ dX5_whyNot_2 (fun H locs hP hS => ?_)
  refine z_topi (y := 0) (zin0 hbd rfl) ?_
  refine lv_if_ne (tgt := 12) hx hb dX5_whyNot_5 (by decide) (fun c_5 => absurd c_5 (by decide)) (fun c_5 => ?_)
  refine lv_iconst (v := 1) hx hb dX5_whyNot_8 (by decide) ?_
  refine lv_goto (tgt := 27) hx hb dX5_whyNot_9 (by decide) ?_
  refine z_Vi_mo (As := [.int 1]) (rest := []) C0 hP hS hl.1 (m_X5_holds l _ hM) lk_X5_86 hM.n0 hM.o rfl rfl (Nat.le_of_ble_eq_true rfl) ⟨Nat.le_of_ble_eq_true rfl, Nat.le_of_ble_eq_true rfl⟩ rfl rfl ⟨Nat.zero_le _, Nat.zero_le _⟩ dX5_whyNot_27 (fun r_27 g_1 H locs hP hS hp => ?_)
  obtain ⟨hr_27, hM, hF1⟩ := hp
  subst hr_27
  have hFr := hFr.tr (hF1.mono (by intro x9 hx9; first | (dsimp only [zOne, zRg, zCl] at hx9 ⊢; omega) | (dsimp only at hx9 ⊢; omega) | omega))
  refine z_topi (y := 0) (if_neg (by decide)) ?_
  refine lv_if_eq (tgt := 42) hx hb dX5_whyNot_30 (by decide) (fun c_30 => ?_) (fun c_30 => absurd c_30 (by decide))
  refine lv_iconst (v := 0) hx hb dX5_whyNot_42 (by decide) ?_
  exact z_iret C0 hP hS hr (⟨rfl, hM, hFr⟩) dX5_whyNot_43
set_option maxHeartbeats 4000000 in
set_option maxRecDepth 100000 in
theorem m_X5_whyNotb2 (l : Launch) {D : va_G} {cy : Nat → ClassId} {K : Nat} {ad : Nat → Nat} {g : Nat → va_E} (sz : Nat) {n : Nat} {sx az so ik sv tx kn lo : Nat → Int32} {th sm lz : Int32} {dg : Int64} {iz : Nat} {num : Int32} (hM : isM cy K ad g n sx az so ik sv tx kn lo th sm lz dg) (hi : iz < 7) (hbd : num < 1 ∨ 999999 < num) : Met l yX5_whyNot (zs yX5_whyNot cX5_whyNot 3 (some .int)) ({ frames := 6, cells := 0, slots := 0, locals := 138 } : Room) (va_Pc [.ref (ad n), .int (nI iz), .int num] (zIn D cy K ad g sz)) (va_Qi (fun r g1 => r = 0 ∧ isM cy K ad g1 n sx az so ik sv tx kn lo 2 sm lz dg ∧ zFr (zRg n (n + 9)) g g1) (zOut D cy K ad sz) (zA K ad sz)) 0 0 (zA K ad sz) := by
  refine z_met (by decide) (Nat.le_of_ble_eq_true rfl) (fun p e s m below meth c ls hsz hl C0 hr hnm hP hS => ?_)
  subst hsz
  have hl : lv_has ls 3 [(0, .ref (ad n)), (1, .int (nI iz)), (2, .int num)] := hl
  have hx := C0.1; have hb := C0.2.1; have hown := C0.2.2.2.1; have hts := C0.2.2.2.2.1
  have hFr : zFr (zRg n (n + 9)) g g := zFr.rf
  refine lv_aload_n hx hb dX5_whyNot_0 rfl (lv_at hl 0 rfl) ?_
  refine lv_iload_n hx hb dX5_whyNot_1 rfl (lv_at hl 1 rfl) ?_
  refine z_Si_eq (As := [.int (nI iz)]) (rest := [.ref (ad n)]) C0 hP hS hl.1 (m_X5_isCord l _ ) lk_X5_82 rfl rfl (Nat.le_of_ble_eq_true rfl) ⟨Nat.le_of_ble_eq_true rfl, Nat.le_of_ble_eq_true rfl⟩ rfl rfl ⟨Nat.zero_le _, Nat.zero_le _⟩ dX5_whyNot_2 (fun H locs hP hS => ?_)
  refine z_topi (y := 1) (zc1 hi) ?_
  refine lv_if_ne (tgt := 12) hx hb dX5_whyNot_5 (by decide) (fun c_5 => ?_) (fun c_5 => absurd c_5 (by decide))
  refine lv_iload_n hx hb dX5_whyNot_12 rfl (lv_at hl 2 rfl) ?_
  refine lv_iconst (v := 1) hx hb dX5_whyNot_13 (by decide) ?_
  refine lv_ldc hx hb hown (hts _ q824) dX5_whyNot_14 ?_
  refine z_Si_eq (As := [.int num, .int 1, .int 999999]) (rest := [.ref (ad n)]) C0 hP hS hl.1 (m_X5_in l _ ) lk_X5_39 rfl rfl (Nat.le_of_ble_eq_true rfl) ⟨Nat.le_of_ble_eq_true rfl, Nat.le_of_ble_eq_true rfl⟩ rfl rfl ⟨Nat.zero_le _, Nat.zero_le _⟩ dX5_whyNot_16 (fun H locs hP hS => ?_)
  refine z_topi (y := 0) (zin1 hbd) ?_
  refine lv_if_ne (tgt := 26) hx hb dX5_whyNot_19 (by decide) (fun c_19 => absurd c_19 (by decide)) (fun c_19 => ?_)
  refine lv_iconst (v := 2) hx hb dX5_whyNot_22 (by decide) ?_
  refine lv_goto (tgt := 27) hx hb dX5_whyNot_23 (by decide) ?_
  refine z_Vi_mo (As := [.int 2]) (rest := []) C0 hP hS hl.1 (m_X5_holds l _ hM) lk_X5_86 hM.n0 hM.o rfl rfl (Nat.le_of_ble_eq_true rfl) ⟨Nat.le_of_ble_eq_true rfl, Nat.le_of_ble_eq_true rfl⟩ rfl rfl ⟨Nat.zero_le _, Nat.zero_le _⟩ dX5_whyNot_27 (fun r_27 g_1 H locs hP hS hp => ?_)
  obtain ⟨hr_27, hM, hF1⟩ := hp
  subst hr_27
  have hFr := hFr.tr (hF1.mono (by intro x9 hx9; first | (dsimp only [zOne, zRg, zCl] at hx9 ⊢; omega) | (dsimp only at hx9 ⊢; omega) | omega))
  refine z_topi (y := 0) (if_neg (by decide)) ?_
  refine lv_if_eq (tgt := 42) hx hb dX5_whyNot_30 (by decide) (fun c_30 => ?_) (fun c_30 => absurd c_30 (by decide))
  refine lv_iconst (v := 0) hx hb dX5_whyNot_42 (by decide) ?_
  exact z_iret C0 hP hS hr (⟨rfl, hM, hFr⟩) dX5_whyNot_43
set_option maxHeartbeats 4000000 in
set_option maxRecDepth 100000 in
theorem m_X5_howOftenb1 (l : Launch) {D : va_G} {cy : Nat → ClassId} {K : Nat} {ad : Nat → Nat} {g : Nat → va_E} (sz : Nat) {n : Nat} {sx az so ik sv tx kn lo : Nat → Int32} {th sm lz : Int32} {dg : Int64} {xz num : Int32} (hM : isM cy K ad g n sx az so ik sv tx kn lo th sm lz dg) (hbd : xz < 0 ∨ 7 ≤ xz) : Met l yX5_howOften (zs yX5_howOften cX5_howOften 3 (some .int)) ({ frames := 8, cells := 0, slots := 0, locals := 184 } : Room) (va_Pc [.ref (ad n), .int xz, .int num] (zIn D cy K ad g sz)) (va_Qi (fun r g1 => r = 0 ∧ isM cy K ad g1 n sx az so ik sv tx kn lo 1 sm lz dg ∧ zFr (zRg n (n + 9)) g g1) (zOut D cy K ad sz) (zA K ad sz)) 0 0 (zA K ad sz) := by
  refine z_met (by decide) (Nat.le_of_ble_eq_true rfl) (fun p e s m below meth c ls hsz hl C0 hr hnm hP hS => ?_)
  subst hsz
  have hl : lv_has ls 3 [(0, .ref (ad n)), (1, .int xz), (2, .int num)] := hl
  have hx := C0.1; have hb := C0.2.1; have hown := C0.2.2.2.1; have hts := C0.2.2.2.2.1
  have hFr : zFr (zRg n (n + 9)) g g := zFr.rf
  refine lv_aload_n hx hb dX5_howOften_0 rfl (lv_at hl 0 rfl) ?_
  refine lv_iload_n hx hb dX5_howOften_1 rfl (lv_at hl 1 rfl) ?_
  refine z_Si_eq (As := [.int xz]) (rest := [.ref (ad n)]) C0 hP hS hl.1 (m_X5_isCord l _ ) lk_X5_82 rfl rfl (Nat.le_of_ble_eq_true rfl) ⟨Nat.le_of_ble_eq_true rfl, Nat.le_of_ble_eq_true rfl⟩ rfl rfl ⟨Nat.zero_le _, Nat.zero_le _⟩ dX5_howOften_2 (fun H locs hP hS => ?_)
  refine z_topi (y := 0) (zin0 hbd rfl) ?_
  refine lv_if_ne (tgt := 12) hx hb dX5_howOften_5 (by decide) (fun c_5 => absurd c_5 (by decide)) (fun c_5 => ?_)
  refine lv_iconst (v := 1) hx hb dX5_howOften_8 (by decide) ?_
  refine lv_goto (tgt := 27) hx hb dX5_howOften_9 (by decide) ?_
  refine z_Vi_mo (As := [.int 1]) (rest := []) C0 hP hS hl.1 (m_X5_holds l _ hM) lk_X5_86 hM.n0 hM.o rfl rfl (Nat.le_of_ble_eq_true rfl) ⟨Nat.le_of_ble_eq_true rfl, Nat.le_of_ble_eq_true rfl⟩ rfl rfl ⟨Nat.zero_le _, Nat.zero_le _⟩ dX5_howOften_27 (fun r_27 g_1 H locs hP hS hp => ?_)
  obtain ⟨hr_27, hM, hF1⟩ := hp
  subst hr_27
  have hFr := hFr.tr (hF1.mono (by intro x9 hx9; first | (dsimp only [zOne, zRg, zCl] at hx9 ⊢; omega) | (dsimp only at hx9 ⊢; omega) | omega))
  refine z_topi (y := 0) (if_neg (by decide)) ?_
  refine lv_if_eq (tgt := 42) hx hb dX5_howOften_30 (by decide) (fun c_30 => ?_) (fun c_30 => absurd c_30 (by decide))
  refine lv_iconst (v := 0) hx hb dX5_howOften_42 (by decide) ?_
  exact z_iret C0 hP hS hr (⟨rfl, hM, hFr⟩) dX5_howOften_43
set_option maxHeartbeats 4000000 in
set_option maxRecDepth 100000 in
theorem m_X5_howOftenb2 (l : Launch) {D : va_G} {cy : Nat → ClassId} {K : Nat} {ad : Nat → Nat} {g : Nat → va_E} (sz : Nat) {n : Nat} {sx az so ik sv tx kn lo : Nat → Int32} {th sm lz : Int32} {dg : Int64} {iz : Nat} {num : Int32} (hM : isM cy K ad g n sx az so ik sv tx kn lo th sm lz dg) (hi : iz < 7) (hbd : num < 1 ∨ 999999 < num) : Met l yX5_howOften (zs yX5_howOften cX5_howOften 3 (some .int)) ({ frames := 8, cells := 0, slots := 0, locals := 184 } : Room) (va_Pc [.ref (ad n), .int (nI iz), .int num] (zIn D cy K ad g sz)) (va_Qi (fun r g1 => r = 0 ∧ isM cy K ad g1 n sx az so ik sv tx kn lo 2 sm lz dg ∧ zFr (zRg n (n + 9)) g g1) (zOut D cy K ad sz) (zA K ad sz)) 0 0 (zA K ad sz) := by
  refine z_met (by decide) (Nat.le_of_ble_eq_true rfl) (fun p e s m below meth c ls hsz hl C0 hr hnm hP hS => ?_)
  subst hsz
  have hl : lv_has ls 3 [(0, .ref (ad n)), (1, .int (nI iz)), (2, .int num)] := hl
  have hx := C0.1; have hb := C0.2.1; have hown := C0.2.2.2.1; have hts := C0.2.2.2.2.1
  have hFr : zFr (zRg n (n + 9)) g g := zFr.rf
  refine lv_aload_n hx hb dX5_howOften_0 rfl (lv_at hl 0 rfl) ?_
  refine lv_iload_n hx hb dX5_howOften_1 rfl (lv_at hl 1 rfl) ?_
  refine z_Si_eq (As := [.int (nI iz)]) (rest := [.ref (ad n)]) C0 hP hS hl.1 (m_X5_isCord l _ ) lk_X5_82 rfl rfl (Nat.le_of_ble_eq_true rfl) ⟨Nat.le_of_ble_eq_true rfl, Nat.le_of_ble_eq_true rfl⟩ rfl rfl ⟨Nat.zero_le _, Nat.zero_le _⟩ dX5_howOften_2 (fun H locs hP hS => ?_)
  refine z_topi (y := 1) (zc1 hi) ?_
  refine lv_if_ne (tgt := 12) hx hb dX5_howOften_5 (by decide) (fun c_5 => ?_) (fun c_5 => absurd c_5 (by decide))
  refine lv_iload_n hx hb dX5_howOften_12 rfl (lv_at hl 2 rfl) ?_
  refine lv_iconst (v := 1) hx hb dX5_howOften_13 (by decide) ?_
  refine lv_ldc hx hb hown (hts _ q824) dX5_howOften_14 ?_
  refine z_Si_eq (As := [.int num, .int 1, .int 999999]) (rest := [.ref (ad n)]) C0 hP hS hl.1 (m_X5_in l _ ) lk_X5_39 rfl rfl (Nat.le_of_ble_eq_true rfl) ⟨Nat.le_of_ble_eq_true rfl, Nat.le_of_ble_eq_true rfl⟩ rfl rfl ⟨Nat.zero_le _, Nat.zero_le _⟩ dX5_howOften_16 (fun H locs hP hS => ?_)
  refine z_topi (y := 0) (zin1 hbd) ?_
  refine lv_if_ne (tgt := 26) hx hb dX5_howOften_19 (by decide) (fun c_19 => absurd c_19 (by decide)) (fun c_19 => ?_)
  refine lv_iconst (v := 2) hx hb dX5_howOften_22 (by decide) ?_
  refine lv_goto (tgt := 27) hx hb dX5_howOften_23 (by decide) ?_
  refine z_Vi_mo (As := [.int 2]) (rest := []) C0 hP hS hl.1 (m_X5_holds l _ hM) lk_X5_86 hM.n0 hM.o rfl rfl (Nat.le_of_ble_eq_true rfl) ⟨Nat.le_of_ble_eq_true rfl, Nat.le_of_ble_eq_true rfl⟩ rfl rfl ⟨Nat.zero_le _, Nat.zero_le _⟩ dX5_howOften_27 (fun r_27 g_1 H locs hP hS hp => ?_)
  obtain ⟨hr_27, hM, hF1⟩ := hp
  subst hr_27
  have hFr := hFr.tr (hF1.mono (by intro x9 hx9; first | (dsimp only [zOne, zRg, zCl] at hx9 ⊢; omega) | (dsimp only at hx9 ⊢; omega) | omega))
  refine z_topi (y := 0) (if_neg (by decide)) ?_
  refine lv_if_eq (tgt := 42) hx hb dX5_howOften_30 (by decide) (fun c_30 => ?_) (fun c_30 => absurd c_30 (by decide))
  refine lv_iconst (v := 0) hx hb dX5_howOften_42 (by decide) ?_
  exact z_iret C0 hP hS hr (⟨rfl, hM, hFr⟩) dX5_howOften_43
