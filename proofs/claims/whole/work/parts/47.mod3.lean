set_option maxHeartbeats 4000000 in
set_option maxRecDepth 100000 in
theorem m_X5_save (l : Launch) {D : va_G} {cy : Nat → ClassId} {K : Nat} {ad : Nat → Nat} {g : Nat → va_E} (sz : Nat) {n : Nat} {sx az so ik sv tx kn lo : Nat → Int32} {th lz : Int32} {dg : Int64} {mz : Nat} (hM : isM cy K ad g n sx az so ik sv tx kn lo th ((nI mz)) lz dg) (hmz : mz ≤ 6) : Met l yX5_save (zs yX5_save cX5_save 2 none) ({ frames := 0, cells := 0, slots := 0, locals := 0 } : Room) (va_Pc [.ref (ad n)] (zIn D cy K ad g sz)) (va_Qv (fun g1 => isM cy K ad g1 n sx az so ik (svS sv mz sx) tx kn lo th (nI (svM mz + 1)) lz dg ∧ zFr (zRg n (n + 9)) g g1) (zOut D cy K ad sz) (zA K ad sz)) 0 0 (zA K ad sz) := by
  refine z_met (by decide) (Nat.le_of_ble_eq_true rfl) (fun p e s m below meth c ls hsz hl C0 hr hnm hP hS => ?_)
  subst hsz
  have hl : lv_has ls 2 [(0, .ref (ad n))] := hl
  have hx := C0.1; have hb := C0.2.1; have hown := C0.2.2.2.1; have hts := C0.2.2.2.2.1
  have hFr : zFr (zRg n (n + 9)) g g := zFr.rf
  refine lv_aload_n hx hb dX5_save_0 rfl (lv_at hl 0 rfl) ?_
  refine z_get C0 hP hM.n0 hM.o fd_X5_47 rfl dX5_save_1 ?_
  refine lv_bipush (v := 6) hx hb dX5_save_4 (by decide) ?_
  refine lv_icmp_ne (tgt := 50) hx hb dX5_save_6 (by decide) (fun c_6 => ?_) (fun c_6 => ?_)
  · have h6 : ¬ mz = 6 := fun q => c_6 (congrArg nI q)
    have hM : isM cy K ad g n sx az so ik (wrF (svB sv mz) (svM mz) sx 0) tx kn lo th (nI (svM mz)) lz dg := by rw [wrF_0, show svM mz = mz from if_neg h6, show svB sv mz = sv from if_neg h6]; exact hM
    refine lv_iconst (v := 0) hx hb dX5_save_50 (by decide) ?_
    refine lv_istore_n (lv' := [(1, .int 0), (0, .ref (ad n))]) hx hb dX5_save_51 rfl hl (by decide) rfl (fun ls hl => ?_)
    have lp_52 : ∀ (N : Nat) (kz : Nat) (hk : kz ≤ 223), 223 - kz < N → ∀ (g_1 : Nat → va_E) (H : Heap) (locs : List Loc) (ls : Array Slot), zP D K ad g_1 (zA K ad s.heap.size) H → va_S (zA K ad s.heap.size) s.heap H locs → isM cy K ad g_1 n sx az so ik (wrF (svB sv mz) (svM mz) sx kz) tx kn lo th ((nI (svM mz))) lz dg → zFr (zRg n (n + 9)) g g_1 → lv_has ls 2 [(0, .ref (ad n)), (1, .int (nI kz))] → W p l e ({ frames := 0, cells := 0, slots := 0, locals := 0 } : Room) s m [.ref (ad n)].toArray below meth c H locs 0 0 (MQ below (va_Qv (fun g1 => isM cy K ad g1 n sx az so ik (svS sv mz sx) tx kn lo th (nI (svM mz + 1)) lz dg ∧ zFr (zRg n (n + 9)) g g1) (zOut D cy K ad s.heap.size) (zA K ad s.heap.size)) [.ref (ad n)].toArray s 0 0 (zA K ad s.heap.size)) (F0 m 52 ls []) := by
      intro N
      induction N with
      | zero => intro kz hk hN; exact absurd hN (Nat.not_lt_zero _)
      | succ N ih_52 =>
        intro kz hk hN g_1 H locs ls hP hS hM hFr hl
        refine lv_iload_n hx hb dX5_save_52 rfl (lv_at hl 1 rfl) ?_
        refine lv_sipush (v := 223) hx hb dX5_save_53 (by decide) ?_
        refine lv_icmp_ge (tgt := 86) hx hb dX5_save_56 (by decide) (fun c_56 => ?_) (fun c_56 => ?_)
        · have hk2 : kz = 223 := by have := z_ge_t (b := 223) c_56 (by omega) (by omega); omega
          subst hk2
          refine lv_aload_n hx hb dX5_save_86 rfl (lv_at hl 0 rfl) ?_
          refine lv_dup hx hb dX5_save_87 rfl ?_
          refine z_get C0 hP hM.n0 hM.o fd_X5_47 rfl dX5_save_88 ?_
          refine lv_iconst (v := 1) hx hb dX5_save_91 (by decide) ?_
          refine lv_iadd hx hb dX5_save_92 ?_
          refine z_topi (y := nI (svM mz + 1)) (nI_1 _) ?_
          refine zp_M_sm C0 hP hS hM hFr (by first | rfl | (dsimp only [zOne, zRg, zCl]; omega) | (dsimp only; omega) | omega) fp_X5_47 dX5_save_93 (fun g_2 H locs hP hS hM hFr hF1 => ?_)
          exact z_vret C0 hP hS hr (⟨hM, hFr⟩) dX5_save_96
        · have hk2 : kz < 223 := z_ge_f (b := 223) c_56 (by omega) (by omega)
          have hm5 := svM_le hmz
          refine lv_aload_n hx hb dX5_save_59 rfl (lv_at hl 0 rfl) ?_
          refine z_get C0 hP hM.n0 hM.o fd_X5_23 rfl dX5_save_60 ?_
          refine lv_sipush (v := 223) hx hb dX5_save_63 (by decide) ?_
          refine lv_aload_n hx hb dX5_save_66 rfl (lv_at hl 0 rfl) ?_
          refine z_get C0 hP hM.n0 hM.o fd_X5_47 rfl dX5_save_67 ?_
          refine lv_imul hx hb dX5_save_70 ?_
          refine lv_iload_n hx hb dX5_save_71 rfl (lv_at hl 1 rfl) ?_
          refine lv_iadd hx hb dX5_save_72 ?_
          refine z_topi (y := nI (223 * svM mz + kz)) (zMu _ _) ?_
          refine lv_aload_n hx hb dX5_save_73 rfl (lv_at hl 0 rfl) ?_
          refine z_get C0 hP hM.n0 hM.o fd_X5_7 rfl dX5_save_74 ?_
          refine lv_iload_n hx hb dX5_save_77 rfl (lv_at hl 1 rfl) ?_
          refine z_iald C0 hP hM.n1 hM.a_s (zIx_nI (by omega) (by decide)) dX5_save_78 ?_
          refine zp_M_sv C0 hP hS hM hFr (by first | rfl | (dsimp only [zOne, zRg, zCl]; omega) | (dsimp only; omega) | omega) (zIx_nI (by omega) (by decide)) dX5_save_79 (fun g_3 H locs hP hS hM hFr hF1 => ?_)
          rw [wrF_up] at hM
          refine lv_iinc (v := nI (kz + 1)) (lv' := [(1, .int (nI (kz + 1))), (0, .ref (ad n))]) hx hb dX5_save_80 hl (k := 1) rfl (z_inc _) (by decide) rfl (fun ls hl => ?_)
          refine lv_goto (tgt := 52) hx hb dX5_save_83 (by decide) ?_
          exact ih_52 (kz + 1) hk2 (by omega) _ _ _ _ hP hS hM hFr (lv_sub hl [1, 0] rfl)
    exact lp_52 _ 0 (Nat.zero_le _) (Nat.lt_succ_self _) _ _ _ _ hP hS hM hFr (lv_sub hl [1, 0] rfl)
  · have h6 : mz = 6 := (nI_eq (b := 6) (by omega) (by decide)).mp c_6
    refine lv_iconst (v := 0) hx hb dX5_save_9 (by decide) ?_
    refine lv_istore_n (lv' := [(1, .int 0), (0, .ref (ad n))]) hx hb dX5_save_10 rfl hl (by decide) rfl (fun ls hl => ?_)
    have lp_11 : ∀ (N : Nat) (kz : Nat) (hk : kz ≤ 1115), 1115 - kz < N → ∀ (g_4 : Nat → va_E) (H : Heap) (locs : List Loc) (ls : Array Slot), zP D K ad g_4 (zA K ad s.heap.size) H → va_S (zA K ad s.heap.size) s.heap H locs → isM cy K ad g_4 n sx az so ik (shF sv kz) tx kn lo th ((nI mz)) lz dg → zFr (zRg n (n + 9)) g g_4 → lv_has ls 2 [(0, .ref (ad n)), (1, .int (nI kz))] → W p l e ({ frames := 0, cells := 0, slots := 0, locals := 0 } : Room) s m [.ref (ad n)].toArray below meth c H locs 0 0 (MQ below (va_Qv (fun g1 => isM cy K ad g1 n sx az so ik (svS sv mz sx) tx kn lo th (nI (svM mz + 1)) lz dg ∧ zFr (zRg n (n + 9)) g g1) (zOut D cy K ad s.heap.size) (zA K ad s.heap.size)) [.ref (ad n)].toArray s 0 0 (zA K ad s.heap.size)) (F0 m 11 ls []) := by
      intro N
      induction N with
      | zero => intro kz hk hN; exact absurd hN (Nat.not_lt_zero _)
      | succ N ih_11 =>
        intro kz hk hN g_4 H locs ls hP hS hM hFr hl
        refine lv_iload_n hx hb dX5_save_11 rfl (lv_at hl 1 rfl) ?_
        refine lv_sipush (v := 1115) hx hb dX5_save_12 (by decide) ?_
        refine lv_icmp_ge (tgt := 40) hx hb dX5_save_15 (by decide) (fun c_15 => ?_) (fun c_15 => ?_)
        · have hk2 : kz = 1115 := by have := z_ge_t (b := 1115) c_15 (by omega) (by omega); omega
          subst hk2
          refine lv_aload_n hx hb dX5_save_40 rfl (lv_at hl 0 rfl) ?_
          refine lv_dup hx hb dX5_save_41 rfl ?_
          refine z_get C0 hP hM.n0 hM.o fd_X5_47 rfl dX5_save_42 ?_
          refine lv_iconst (v := 1) hx hb dX5_save_45 (by decide) ?_
          refine lv_isub hx hb dX5_save_46 ?_
          refine z_topi (y := nI (svM mz)) (by rw [h6]; decide) ?_
          refine zp_M_sm C0 hP hS hM hFr (by first | rfl | (dsimp only [zOne, zRg, zCl]; omega) | (dsimp only; omega) | omega) fp_X5_47 dX5_save_47 (fun g_5 H locs hP hS hM hFr hF1 => ?_)
          have hM : isM cy K ad g_5 n sx az so ik (wrF (svB sv mz) (svM mz) sx 0) tx kn lo th (nI (svM mz)) lz dg := by rw [wrF_0, show svB sv mz = shF sv 1115 from if_pos h6]; exact hM
          refine lv_iconst (v := 0) hx hb dX5_save_50 (by decide) ?_
          refine lv_istore_n (lv' := [(1, .int 0), (0, .ref (ad n))]) hx hb dX5_save_51 rfl hl (by decide) rfl (fun ls hl => ?_)
          have lp_52 : ∀ (N : Nat) (kz : Nat) (hk : kz ≤ 223), 223 - kz < N → ∀ (g_6 : Nat → va_E) (H : Heap) (locs : List Loc) (ls : Array Slot), zP D K ad g_6 (zA K ad s.heap.size) H → va_S (zA K ad s.heap.size) s.heap H locs → isM cy K ad g_6 n sx az so ik (wrF (svB sv mz) (svM mz) sx kz) tx kn lo th ((nI (svM mz))) lz dg → zFr (zRg n (n + 9)) g g_6 → lv_has ls 2 [(0, .ref (ad n)), (1, .int (nI kz))] → W p l e ({ frames := 0, cells := 0, slots := 0, locals := 0 } : Room) s m [.ref (ad n)].toArray below meth c H locs 0 0 (MQ below (va_Qv (fun g1 => isM cy K ad g1 n sx az so ik (svS sv mz sx) tx kn lo th (nI (svM mz + 1)) lz dg ∧ zFr (zRg n (n + 9)) g g1) (zOut D cy K ad s.heap.size) (zA K ad s.heap.size)) [.ref (ad n)].toArray s 0 0 (zA K ad s.heap.size)) (F0 m 52 ls []) := by
            intro N
            induction N with
            | zero => intro kz hk hN; exact absurd hN (Nat.not_lt_zero _)
            | succ N ih_52 =>
              intro kz hk hN g_6 H locs ls hP hS hM hFr hl
              refine lv_iload_n hx hb dX5_save_52 rfl (lv_at hl 1 rfl) ?_
              refine lv_sipush (v := 223) hx hb dX5_save_53 (by decide) ?_
              refine lv_icmp_ge (tgt := 86) hx hb dX5_save_56 (by decide) (fun c_56 => ?_) (fun c_56 => ?_)
              · have hk2 : kz = 223 := by have := z_ge_t (b := 223) c_56 (by omega) (by omega); omega
                subst hk2
                refine lv_aload_n hx hb dX5_save_86 rfl (lv_at hl 0 rfl) ?_
                refine lv_dup hx hb dX5_save_87 rfl ?_
                refine z_get C0 hP hM.n0 hM.o fd_X5_47 rfl dX5_save_88 ?_
                refine lv_iconst (v := 1) hx hb dX5_save_91 (by decide) ?_
                refine lv_iadd hx hb dX5_save_92 ?_
                refine z_topi (y := nI (svM mz + 1)) (nI_1 _) ?_
                refine zp_M_sm C0 hP hS hM hFr (by first | rfl | (dsimp only [zOne, zRg, zCl]; omega) | (dsimp only; omega) | omega) fp_X5_47 dX5_save_93 (fun g_7 H locs hP hS hM hFr hF1 => ?_)
                exact z_vret C0 hP hS hr (⟨hM, hFr⟩) dX5_save_96
              · have hk2 : kz < 223 := z_ge_f (b := 223) c_56 (by omega) (by omega)
                have hm5 := svM_le hmz
                refine lv_aload_n hx hb dX5_save_59 rfl (lv_at hl 0 rfl) ?_
                refine z_get C0 hP hM.n0 hM.o fd_X5_23 rfl dX5_save_60 ?_
                refine lv_sipush (v := 223) hx hb dX5_save_63 (by decide) ?_
                refine lv_aload_n hx hb dX5_save_66 rfl (lv_at hl 0 rfl) ?_
                refine z_get C0 hP hM.n0 hM.o fd_X5_47 rfl dX5_save_67 ?_
                refine lv_imul hx hb dX5_save_70 ?_
                refine lv_iload_n hx hb dX5_save_71 rfl (lv_at hl 1 rfl) ?_
                refine lv_iadd hx hb dX5_save_72 ?_
                refine z_topi (y := nI (223 * svM mz + kz)) (zMu _ _) ?_
                refine lv_aload_n hx hb dX5_save_73 rfl (lv_at hl 0 rfl) ?_
                refine z_get C0 hP hM.n0 hM.o fd_X5_7 rfl dX5_save_74 ?_
                refine lv_iload_n hx hb dX5_save_77 rfl (lv_at hl 1 rfl) ?_
                refine z_iald C0 hP hM.n1 hM.a_s (zIx_nI (by omega) (by decide)) dX5_save_78 ?_
                refine zp_M_sv C0 hP hS hM hFr (by first | rfl | (dsimp only [zOne, zRg, zCl]; omega) | (dsimp only; omega) | omega) (zIx_nI (by omega) (by decide)) dX5_save_79 (fun g_8 H locs hP hS hM hFr hF1 => ?_)
                rw [wrF_up] at hM
                refine lv_iinc (v := nI (kz + 1)) (lv' := [(1, .int (nI (kz + 1))), (0, .ref (ad n))]) hx hb dX5_save_80 hl (k := 1) rfl (z_inc _) (by decide) rfl (fun ls hl => ?_)
                refine lv_goto (tgt := 52) hx hb dX5_save_83 (by decide) ?_
                exact ih_52 (kz + 1) hk2 (by omega) _ _ _ _ hP hS hM hFr (lv_sub hl [1, 0] rfl)
          exact lp_52 _ 0 (Nat.zero_le _) (Nat.lt_succ_self _) _ _ _ _ hP hS hM hFr (lv_sub hl [1, 0] rfl)
        · have hk2 : kz < 1115 := z_ge_f (b := 1115) c_15 (by omega) (by omega)
          refine lv_aload_n hx hb dX5_save_18 rfl (lv_at hl 0 rfl) ?_
          refine z_get C0 hP hM.n0 hM.o fd_X5_23 rfl dX5_save_19 ?_
          refine lv_iload_n hx hb dX5_save_22 rfl (lv_at hl 1 rfl) ?_
          refine lv_aload_n hx hb dX5_save_23 rfl (lv_at hl 0 rfl) ?_
          refine z_get C0 hP hM.n0 hM.o fd_X5_23 rfl dX5_save_24 ?_
          refine lv_sipush (v := 223) hx hb dX5_save_27 (by decide) ?_
          refine lv_iload_n hx hb dX5_save_30 rfl (lv_at hl 1 rfl) ?_
          refine lv_iadd hx hb dX5_save_31 ?_
          refine z_topi (y := nI (223 + kz)) (nI_add 223 kz) ?_
          refine z_iald C0 hP hM.n5 hM.a_sv (zIx_nI (by omega) (by decide)) dX5_save_32 ?_
          refine zp_M_sv C0 hP hS hM hFr (by first | rfl | (dsimp only [zOne, zRg, zCl]; omega) | (dsimp only; omega) | omega) (zIx_nI (by omega) (by decide)) dX5_save_33 (fun g_9 H locs hP hS hM hFr hF1 => ?_)
          rw [shF_up] at hM
          refine lv_iinc (v := nI (kz + 1)) (lv' := [(1, .int (nI (kz + 1))), (0, .ref (ad n))]) hx hb dX5_save_34 hl (k := 1) rfl (z_inc _) (by decide) rfl (fun ls hl => ?_)
          refine lv_goto (tgt := 11) hx hb dX5_save_37 (by decide) ?_
          exact ih_11 (kz + 1) hk2 (by omega) _ _ _ _ hP hS hM hFr (lv_sub hl [1, 0] rfl)
    have hM : isM cy K ad g n sx az so ik (shF sv 0) tx kn lo th (nI mz) lz dg := by rw [shF_0]; exact hM
    exact lp_11 _ 0 (Nat.zero_le _) (Nat.lt_succ_self _) _ _ _ _ hP hS hM hFr (lv_sub hl [1, 0] rfl)
set_option maxHeartbeats 4000000 in
set_option maxRecDepth 100000 in
theorem m_X5_tiesPart (l : Launch) {D : va_G} {cy : Nat → ClassId} {K : Nat} {ad : Nat → Nat} {g : Nat → va_E} (sz : Nat) {n : Nat} {sx az so ik sv tx kn lo : Nat → Int32} {th sm lz : Int32} {dg : Int64} {iz : Nat} {num : Int32} (hM : isM cy K ad g n sx az so ik sv tx kn lo th sm lz dg) (hi : iz < 7) (hpc : pcOK sx) : Met l yX5_tiesPart (zs yX5_tiesPart cX5_tiesPart 4 (some .int)) ({ frames := 6, cells := 0, slots := 0, locals := 138 } : Room) (va_Pc [.ref (ad n), .int (nI iz), .int num] (zIn D cy K ad g sz)) (va_Qi (fun r g1 => r = tieR sx iz num ∧ (∃ kn lo : Nat → Int32, isM cy K ad g1 n (tieS sx iz num) az so ik sv tx kn lo th sm lz dg) ∧ zFr (zRg n (n + 9)) g g1) (zOut D cy K ad sz) (zA K ad sz)) 0 0 (zA K ad sz) := by
  refine z_met (by decide) (Nat.le_of_ble_eq_true rfl) (fun p e s m below meth c ls hsz hl C0 hr hnm hP hS => ?_)
  subst hsz
  have hl : lv_has ls 4 [(0, .ref (ad n)), (1, .int (nI iz)), (2, .int num)] := hl
  have hx := C0.1; have hb := C0.2.1; have hown := C0.2.2.2.1; have hts := C0.2.2.2.2.1
  have hFr : zFr (zRg n (n + 9)) g g := zFr.rf
  have hcm := (hpc iz hi).2
  refine lv_aload_n hx hb dX5_tiesPart_0 rfl (lv_at hl 0 rfl) ?_
  refine lv_iload_n hx hb dX5_tiesPart_1 rfl (lv_at hl 1 rfl) ?_
  refine lv_iload_n hx hb dX5_tiesPart_2 rfl (lv_at hl 2 rfl) ?_
  refine z_Vi_mo (As := [.int (nI iz), .int num]) (rest := []) C0 hP hS hl.1 (m_X5_reasonFor l _ hM hi hpc) lk_X5_70 hM.n0 hM.o rfl rfl (Nat.le_of_ble_eq_true rfl) ⟨Nat.le_of_ble_eq_true rfl, Nat.le_of_ble_eq_true rfl⟩ rfl rfl ⟨Nat.zero_le _, Nat.zero_le _⟩ dX5_tiesPart_3 (fun r_3 g_1 H locs hP hS hp => ?_)
  obtain ⟨hr_3, hM, hF1⟩ := hp
  subst hr_3
  have hFr := hFr.tr (hF1.mono (by intro x9 hx9; first | (dsimp only [zOne, zRg, zCl] at hx9 ⊢; omega) | (dsimp only at hx9 ⊢; omega) | omega))
  refine lv_istore_n (lv' := [(3, .int (cRop sx iz num)), (0, .ref (ad n)), (1, .int (nI iz)), (2, .int num)]) hx hb dX5_tiesPart_6 rfl hl (by decide) rfl (fun ls hl => ?_)
  refine lv_iload_n hx hb dX5_tiesPart_7 rfl (lv_at hl 0 rfl) ?_
  refine lv_if_le (tgt := 23) hx hb dX5_tiesPart_8 (by decide) (fun c_8 => ?_) (fun c_8 => ?_)
  · have hq : cRop sx iz num = 0 ∧ cm sx iz < 16 ∧ cTold sx iz + num ≤ 999999 := rop_le c_8
    refine lv_aload_n hx hb dX5_tiesPart_23 rfl (lv_at hl 1 rfl) ?_
    refine z_get C0 hP hM.n0 hM.o fd_X5_7 rfl dX5_tiesPart_24 ?_
    refine lv_iload_n hx hb dX5_tiesPart_27 rfl (lv_at hl 2 rfl) ?_
    refine lv_iconst (v := 3) hx hb dX5_tiesPart_28 (by decide) ?_
    refine lv_aload_n hx hb dX5_tiesPart_29 rfl (lv_at hl 1 rfl) ?_
    refine lv_iload_n hx hb dX5_tiesPart_30 rfl (lv_at hl 2 rfl) ?_
    refine lv_iconst (v := (nI 1)) hx hb dX5_tiesPart_31 (by decide) ?_
    refine z_Vi_eq (As := [.int (nI iz), .int (nI 1)]) (rest := [.int 3, .int (nI iz), .ref (ad (n + 1))]) C0 hP hS hl.1 (m_X5_of l _ hM hi (by omega)) lk_X5_50 hM.n0 hM.o rfl rfl (Nat.le_of_ble_eq_true rfl) ⟨Nat.le_of_ble_eq_true rfl, Nat.le_of_ble_eq_true rfl⟩ rfl rfl ⟨Nat.zero_le _, Nat.zero_le _⟩ dX5_tiesPart_32 (fun H locs hP hS => ?_)
    refine z_topi (y := nI (cm sx iz)) ((hpc iz hi).1) ?_
    refine lv_iadd hx hb dX5_tiesPart_35 ?_
    refine z_topi (y := nI (3 + cm sx iz)) (nI_add 3 _) ?_
    refine z_Si_eq (As := [.int (nI iz), .int (nI (3 + cm sx iz))]) (rest := [.ref (ad (n + 1))]) C0 hP hS hl.1 (m_X5_at l _ ) lk_X5_43 rfl rfl (Nat.le_of_ble_eq_true rfl) ⟨Nat.le_of_ble_eq_true rfl, Nat.le_of_ble_eq_true rfl⟩ rfl rfl ⟨Nat.zero_le _, Nat.zero_le _⟩ dX5_tiesPart_36 (fun H locs hP hS => ?_)
    refine lv_iload_n hx hb dX5_tiesPart_39 rfl (lv_at hl 3 rfl) ?_
    refine zp_M_s C0 hP hS hM hFr (by first | rfl | (dsimp only [zOne, zRg, zCl]; omega) | (dsimp only; omega) | omega) (zIx_nI (by have := hq.2.1; omega) (by decide)) dX5_tiesPart_40 (fun g_2 H locs hP hS hM hFr hF1 => ?_)
    refine lv_aload_n hx hb dX5_tiesPart_41 rfl (lv_at hl 1 rfl) ?_
    refine z_get C0 hP hM.n0 hM.o fd_X5_7 rfl dX5_tiesPart_42 ?_
    refine lv_iload_n hx hb dX5_tiesPart_45 rfl (lv_at hl 2 rfl) ?_
    refine lv_iconst (v := (nI 1)) hx hb dX5_tiesPart_46 (by decide) ?_
    refine z_Si_eq (As := [.int (nI iz), .int (nI 1)]) (rest := [.ref (ad (n + 1))]) C0 hP hS hl.1 (m_X5_at l _ ) lk_X5_43 rfl rfl (Nat.le_of_ble_eq_true rfl) ⟨Nat.le_of_ble_eq_true rfl, Nat.le_of_ble_eq_true rfl⟩ rfl rfl ⟨Nat.zero_le _, Nat.zero_le _⟩ dX5_tiesPart_47 (fun H locs hP hS => ?_)
    refine lv_dup2_11 hx hb dX5_tiesPart_50 rfl rfl ?_
    refine z_iald C0 hP hM.n1 hM.a_s (zIx_nI (by omega) (by decide)) dX5_tiesPart_51 ?_
    refine lv_iconst (v := 1) hx hb dX5_tiesPart_52 (by decide) ?_
    refine lv_iadd hx hb dX5_tiesPart_53 ?_
    refine zp_M_s C0 hP hS hM hFr (by first | rfl | (dsimp only [zOne, zRg, zCl]; omega) | (dsimp only; omega) | omega) (zIx_nI (by omega) (by decide)) dX5_tiesPart_54 (fun g_3 H locs hP hS hM hFr hF1 => ?_)
    refine lv_bipush (v := 10) hx hb dX5_tiesPart_55 (by decide) ?_
    refine lv_aload_n hx hb dX5_tiesPart_57 rfl (lv_at hl 1 rfl) ?_
    refine lv_iload_n hx hb dX5_tiesPart_58 rfl (lv_at hl 2 rfl) ?_
    refine z_Vi_mo (As := [.int (nI iz)]) (rest := [.int 10]) C0 hP hS hl.1 (m_X5_knits l _ hM hi) lk_X5_73 hM.n0 hM.o rfl rfl (Nat.le_of_ble_eq_true rfl) ⟨Nat.le_of_ble_eq_true rfl, Nat.le_of_ble_eq_true rfl⟩ rfl rfl ⟨Nat.zero_le _, Nat.zero_le _⟩ dX5_tiesPart_59 (fun r_59 g_4 H locs hP hS hp => ?_)
    obtain ⟨hr_59, hM, hF1⟩ := hp
    subst hr_59
    have hFr := hFr.tr (hF1.mono (by intro x9 hx9; first | (dsimp only [zOne, zRg, zCl] at hx9 ⊢; omega) | (dsimp only at hx9 ⊢; omega) | omega))
    rw [tie_eq hpc hi hq.2.2 hq.2.1] at hM
    refine lv_iadd hx hb dX5_tiesPart_62 ?_
    exact z_iret C0 hP hS hr (⟨by unfold tieR; rw [if_pos hq.1, if_pos hq.2.1]; unfold layB; rw [if_pos (show cTold sx iz + num ≤ 999999 from hq.2.2)]; exact congrArg (fun z => 10 + z) (sumN_cpF _ _), ⟨_, _, by unfold tieS; rw [if_pos hq.1]; exact hM⟩, hFr⟩) dX5_tiesPart_63
  · have hq : ¬ cRop sx iz num = 0 := fun q => c_8 (by show cRop sx iz num ≤ 0; rw [q]; decide)
    refine lv_aload_n hx hb dX5_tiesPart_11 rfl (lv_at hl 1 rfl) ?_
    refine z_get C0 hP hM.n0 hM.o fd_X5_7 rfl dX5_tiesPart_12 ?_
    refine lv_iconst (v := 4) hx hb dX5_tiesPart_15 (by decide) ?_
    refine lv_dup2_11 hx hb dX5_tiesPart_16 rfl rfl ?_
    refine z_iald C0 hP hM.n1 hM.a_s (zIx_nI (j := 4) (by decide) (by decide)) dX5_tiesPart_17 ?_
    refine lv_iconst (v := 1) hx hb dX5_tiesPart_18 (by decide) ?_
    refine lv_iadd hx hb dX5_tiesPart_19 ?_
    refine zp_M_s C0 hP hS hM hFr (by first | rfl | (dsimp only [zOne, zRg, zCl]; omega) | (dsimp only; omega) | omega) (zIx_nI (j := 4) (by decide) (by decide)) dX5_tiesPart_20 (fun g_5 H locs hP hS hM hFr hF1 => ?_)
    refine lv_iload_n hx hb dX5_tiesPart_21 rfl (lv_at hl 0 rfl) ?_
    exact z_iret C0 hP hS hr (⟨(if_neg hq).symm, ⟨_, _, by unfold tieS; rw [if_neg hq]; exact hM⟩, hFr⟩) dX5_tiesPart_22
set_option maxHeartbeats 4000000 in
set_option maxRecDepth 100000 in
theorem m_X5_adds (l : Launch) {D : va_G} {cy : Nat → ClassId} {K : Nat} {ad : Nat → Nat} {g : Nat → va_E} (sz : Nat) {n : Nat} {sx az so ik sv tx kn lo : Nat → Int32} {th sm lz : Int32} {dg : Int64} {iz jz : Nat} (hM : isM cy K ad g n sx az so ik sv tx kn lo th sm lz dg) (hi : iz < 7) (hj : jz < 7) (hpc : pcOK sx) : Met l yX5_adds (zs yX5_adds cX5_adds 3 (some .int)) ({ frames := 7, cells := 0, slots := 0, locals := 161 } : Room) (va_Pc [.ref (ad n), .int (nI iz), .int (nI jz)] (zIn D cy K ad g sz)) (va_Qi (fun r g1 => r = addR sx iz jz ∧ (∃ kn lo : Nat → Int32, isM cy K ad g1 n (addS sx iz jz) az so ik sv tx kn lo th sm lz dg) ∧ zFr (zRg n (n + 9)) g g1) (zOut D cy K ad sz) (zA K ad sz)) 0 0 (zA K ad sz) := by
  refine z_met (by decide) (Nat.le_of_ble_eq_true rfl) (fun p e s m below meth c ls hsz hl C0 hr hnm hP hS => ?_)
  subst hsz
  have hl : lv_has ls 3 [(0, .ref (ad n)), (1, .int (nI iz)), (2, .int (nI jz))] := hl
  have hx := C0.1; have hb := C0.2.1; have hown := C0.2.2.2.1; have hts := C0.2.2.2.2.1
  have hFr : zFr (zRg n (n + 9)) g g := zFr.rf
  refine lv_aload_n hx hb dX5_adds_0 rfl (lv_at hl 0 rfl) ?_
  refine lv_iload_n hx hb dX5_adds_1 rfl (lv_at hl 1 rfl) ?_
  refine z_Vi_eq (As := [.int (nI iz)]) (rest := []) C0 hP hS hl.1 (m_X5_told l _ hM hi) lk_X5_60 hM.n0 hM.o rfl rfl (Nat.le_of_ble_eq_true rfl) ⟨Nat.le_of_ble_eq_true rfl, Nat.le_of_ble_eq_true rfl⟩ rfl rfl ⟨Nat.zero_le _, Nat.zero_le _⟩ dX5_adds_2 (fun H locs hP hS => ?_)
  refine lv_if_ne (tgt := 12) hx hb dX5_adds_5 (by decide) (fun c_5 => ?_) (fun c_5 => ?_)
  · refine lv_aload_n hx hb dX5_adds_12 rfl (lv_at hl 0 rfl) ?_
    refine lv_iload_n hx hb dX5_adds_13 rfl (lv_at hl 2 rfl) ?_
    refine lv_aload_n hx hb dX5_adds_14 rfl (lv_at hl 0 rfl) ?_
    refine lv_iload_n hx hb dX5_adds_15 rfl (lv_at hl 1 rfl) ?_
    refine z_Vi_eq (As := [.int (nI iz)]) (rest := [.int (nI jz), .ref (ad n)]) C0 hP hS hl.1 (m_X5_told l _ hM hi) lk_X5_60 hM.n0 hM.o rfl rfl (Nat.le_of_ble_eq_true rfl) ⟨Nat.le_of_ble_eq_true rfl, Nat.le_of_ble_eq_true rfl⟩ rfl rfl ⟨Nat.zero_le _, Nat.zero_le _⟩ dX5_adds_16 (fun H locs hP hS => ?_)
    refine z_Vi_mo (As := [.int (nI jz), .int (cTold sx iz)]) (rest := []) C0 hP hS hl.1 (m_X5_tiesPart l _ hM hj hpc) lk_X5_76 hM.n0 hM.o rfl rfl (Nat.le_of_ble_eq_true rfl) ⟨Nat.le_of_ble_eq_true rfl, Nat.le_of_ble_eq_true rfl⟩ rfl rfl ⟨Nat.zero_le _, Nat.zero_le _⟩ dX5_adds_19 (fun r_19 g_1 H locs hP hS hp => ?_)
    obtain ⟨hr_19, ⟨kn1, lo1, hM⟩, hF1⟩ := hp
    subst hr_19
    have hFr := hFr.tr (hF1.mono (by intro x9 hx9; first | (dsimp only [zOne, zRg, zCl] at hx9 ⊢; omega) | (dsimp only at hx9 ⊢; omega) | omega))
    exact z_iret C0 hP hS hr (⟨(if_neg c_5).symm, ⟨_, _, by unfold addS; rw [if_neg c_5]; exact hM⟩, hFr⟩) dX5_adds_22
  · refine lv_iconst (v := 0) hx hb dX5_adds_8 (by decide) ?_
    refine lv_goto (tgt := 22) hx hb dX5_adds_9 (by decide) ?_
    exact z_iret C0 hP hS hr (⟨(if_pos c_5).symm, ⟨_, _, by unfold addS; rw [if_pos c_5]; exact hM⟩, hFr⟩) dX5_adds_22
set_option maxHeartbeats 4000000 in
set_option maxRecDepth 100000 in
theorem m_X5_slips (l : Launch) {D : va_G} {cy : Nat → ClassId} {K : Nat} {ad : Nat → Nat} {g : Nat → va_E} (sz : Nat) {n : Nat} {sx az so ik sv tx kn lo : Nat → Int32} {th sm lz : Int32} {dg : Int64} {iz jz : Nat} (hM : isM cy K ad g n sx az so ik sv tx kn lo th sm lz dg) (hi : iz < 7) (hj : jz < 6) : Met l yX5_slips (zs yX5_slips cX5_slips 3 (some .int)) ({ frames := 3, cells := 0, slots := 0, locals := 65 } : Room) (va_Pc [.ref (ad n), .int (nI iz), .int (nI jz)] (zIn D cy K ad g sz)) (va_Qi (fun r g1 => r = slipR sx iz jz ∧ isM cy K ad g1 n (slipS sx iz jz) az so ik sv tx kn lo th sm lz dg ∧ zFr (zRg n (n + 9)) g g1) (zOut D cy K ad sz) (zA K ad sz)) 0 0 (zA K ad sz) := by
  refine z_met (by decide) (Nat.le_of_ble_eq_true rfl) (fun p e s m below meth c ls hsz hl C0 hr hnm hP hS => ?_)
  subst hsz
  have hl : lv_has ls 3 [(0, .ref (ad n)), (1, .int (nI iz)), (2, .int (nI jz))] := hl
  have hx := C0.1; have hb := C0.2.1; have hown := C0.2.2.2.1; have hts := C0.2.2.2.2.1
  have hFr : zFr (zRg n (n + 9)) g g := zFr.rf
  refine lv_aload_n hx hb dX5_slips_0 rfl (lv_at hl 0 rfl) ?_
  refine lv_iload_n hx hb dX5_slips_1 rfl (lv_at hl 1 rfl) ?_
  refine lv_iload_n hx hb dX5_slips_2 rfl (lv_at hl 2 rfl) ?_
  refine z_Vi_eq (As := [.int (nI iz), .int (nI jz)]) (rest := []) C0 hP hS hl.1 (m_X5_open l _ hM hi hj) lk_X5_53 hM.n0 hM.o rfl rfl (Nat.le_of_ble_eq_true rfl) ⟨Nat.le_of_ble_eq_true rfl, Nat.le_of_ble_eq_true rfl⟩ rfl rfl ⟨Nat.zero_le _, Nat.zero_le _⟩ dX5_slips_3 (fun H locs hP hS => ?_)
  refine lv_if_ne (tgt := 21) hx hb dX5_slips_6 (by decide) (fun c_6 => ?_) (fun c_6 => ?_)
  · refine lv_aload_n hx hb dX5_slips_21 rfl (lv_at hl 0 rfl) ?_
    refine z_get C0 hP hM.n0 hM.o fd_X5_7 rfl dX5_slips_22 ?_
    refine lv_iload_n hx hb dX5_slips_25 rfl (lv_at hl 1 rfl) ?_
    refine lv_bipush (v := 19) hx hb dX5_slips_26 (by decide) ?_
    refine lv_iload_n hx hb dX5_slips_28 rfl (lv_at hl 2 rfl) ?_
    refine lv_iadd hx hb dX5_slips_29 ?_
    refine z_topi (y := nI (19 + jz)) (nI_add 19 jz) ?_
    refine z_Si_eq (As := [.int (nI iz), .int (nI (19 + jz))]) (rest := [.ref (ad (n + 1))]) C0 hP hS hl.1 (m_X5_at l _ ) lk_X5_43 rfl rfl (Nat.le_of_ble_eq_true rfl) ⟨Nat.le_of_ble_eq_true rfl, Nat.le_of_ble_eq_true rfl⟩ rfl rfl ⟨Nat.zero_le _, Nat.zero_le _⟩ dX5_slips_30 (fun H locs hP hS => ?_)
    refine lv_dup2_11 hx hb dX5_slips_33 rfl rfl ?_
    refine z_iald C0 hP hM.n1 hM.a_s (zIx_nI (by omega) (by decide)) dX5_slips_34 ?_
    refine lv_iconst (v := 1) hx hb dX5_slips_35 (by decide) ?_
    refine lv_isub hx hb dX5_slips_36 ?_
    refine zp_M_s C0 hP hS hM hFr (by first | rfl | (dsimp only [zOne, zRg, zCl]; omega) | (dsimp only; omega) | omega) (zIx_nI (by omega) (by decide)) dX5_slips_37 (fun g_1 H locs hP hS hM hFr hF1 => ?_)
    refine lv_aload_n hx hb dX5_slips_38 rfl (lv_at hl 0 rfl) ?_
    refine z_get C0 hP hM.n0 hM.o fd_X5_7 rfl dX5_slips_39 ?_
    refine lv_iload_n hx hb dX5_slips_42 rfl (lv_at hl 1 rfl) ?_
    refine lv_iconst (v := (nI 2)) hx hb dX5_slips_43 (by decide) ?_
    refine z_Si_eq (As := [.int (nI iz), .int (nI 2)]) (rest := [.ref (ad (n + 1))]) C0 hP hS hl.1 (m_X5_at l _ ) lk_X5_43 rfl rfl (Nat.le_of_ble_eq_true rfl) ⟨Nat.le_of_ble_eq_true rfl, Nat.le_of_ble_eq_true rfl⟩ rfl rfl ⟨Nat.zero_le _, Nat.zero_le _⟩ dX5_slips_44 (fun H locs hP hS => ?_)
    refine lv_dup2_11 hx hb dX5_slips_47 rfl rfl ?_
    refine z_iald C0 hP hM.n1 hM.a_s (zIx_nI (by omega) (by decide)) dX5_slips_48 ?_
    refine lv_iconst (v := 1) hx hb dX5_slips_49 (by decide) ?_
    refine lv_iadd hx hb dX5_slips_50 ?_
    refine zp_M_s C0 hP hS hM hFr (by first | rfl | (dsimp only [zOne, zRg, zCl]; omega) | (dsimp only; omega) | omega) (zIx_nI (by omega) (by decide)) dX5_slips_51 (fun g_2 H locs hP hS hM hFr hF1 => ?_)
    refine lv_aload_n hx hb dX5_slips_52 rfl (lv_at hl 0 rfl) ?_
    refine z_get C0 hP hM.n0 hM.o fd_X5_7 rfl dX5_slips_53 ?_
    refine lv_iconst (v := 2) hx hb dX5_slips_56 (by decide) ?_
    refine lv_dup2_11 hx hb dX5_slips_57 rfl rfl ?_
    refine z_iald C0 hP hM.n1 hM.a_s (zIx_nI (j := 2) (by decide) (by decide)) dX5_slips_58 ?_
    refine lv_iconst (v := 1) hx hb dX5_slips_59 (by decide) ?_
    refine lv_iadd hx hb dX5_slips_60 ?_
    refine zp_M_s C0 hP hS hM hFr (by first | rfl | (dsimp only [zOne, zRg, zCl]; omega) | (dsimp only; omega) | omega) (zIx_nI (j := 2) (by decide) (by decide)) dX5_slips_61 (fun g_3 H locs hP hS hM hFr hF1 => ?_)
    rw [slip_eq sx hj] at hM
    refine lv_aload_n hx hb dX5_slips_62 rfl (lv_at hl 0 rfl) ?_
    refine lv_iload_n hx hb dX5_slips_63 rfl (lv_at hl 1 rfl) ?_
    refine lv_iload_n hx hb dX5_slips_64 rfl (lv_at hl 2 rfl) ?_
    refine z_Vi_eq (As := [.int (nI iz), .int (nI jz)]) (rest := []) C0 hP hS hl.1 (m_X5_open l _ hM hi hj) lk_X5_53 hM.n0 hM.o rfl rfl (Nat.le_of_ble_eq_true rfl) ⟨Nat.le_of_ble_eq_true rfl, Nat.le_of_ble_eq_true rfl⟩ rfl rfl ⟨Nat.zero_le _, Nat.zero_le _⟩ dX5_slips_65 (fun H locs hP hS => ?_)
    exact z_iret C0 hP hS hr (⟨by unfold slipR; rw [if_neg c_6]; exact slip_o sx hj, by unfold slipS; rw [if_neg c_6]; exact hM, hFr⟩) dX5_slips_68
  · refine lv_aload_n hx hb dX5_slips_9 rfl (lv_at hl 0 rfl) ?_
    refine z_get C0 hP hM.n0 hM.o fd_X5_7 rfl dX5_slips_10 ?_
    refine lv_iconst (v := 4) hx hb dX5_slips_13 (by decide) ?_
    refine lv_dup2_11 hx hb dX5_slips_14 rfl rfl ?_
    refine z_iald C0 hP hM.n1 hM.a_s (zIx_nI (j := 4) (by decide) (by decide)) dX5_slips_15 ?_
    refine lv_iconst (v := 1) hx hb dX5_slips_16 (by decide) ?_
    refine lv_iadd hx hb dX5_slips_17 ?_
    refine zp_M_s C0 hP hS hM hFr (by first | rfl | (dsimp only [zOne, zRg, zCl]; omega) | (dsimp only; omega) | omega) (zIx_nI (j := 4) (by decide) (by decide)) dX5_slips_18 (fun g_4 H locs hP hS hM hFr hF1 => ?_)
    refine lv_iconst (v := (-1)) hx hb dX5_slips_19 (by decide) ?_
    exact z_iret C0 hP hS hr (⟨(if_pos c_6).symm, by unfold slipS; rw [if_pos c_6]; exact hM, hFr⟩) dX5_slips_20
set_option maxHeartbeats 4000000 in
set_option maxRecDepth 100000 in
theorem m_X5_mends (l : Launch) {D : va_G} {cy : Nat → ClassId} {K : Nat} {ad : Nat → Nat} {g : Nat → va_E} (sz : Nat) {n : Nat} {sx az so ik sv tx kn lo : Nat → Int32} {th sm lz : Int32} {dg : Int64} {iz : Nat} (hM : isM cy K ad g n sx az so ik sv tx kn lo th sm lz dg) (hi : iz < 7) (hpc : pcOK sx) : Met l yX5_mends (zs yX5_mends cX5_mends 5 (some .int)) ({ frames := 5, cells := 0, slots := 0, locals := 116 } : Room) (va_Pc [.ref (ad n), .int (nI iz)] (zIn D cy K ad g sz)) (va_Qi (fun r g1 => r = mendR sx iz ∧ (∃ kn lo : Nat → Int32, isM cy K ad g1 n (mendS sx iz) az so ik sv tx kn lo th sm lz dg) ∧ zFr (zRg n (n + 9)) g g1) (zOut D cy K ad sz) (zA K ad sz)) 0 0 (zA K ad sz) := by
  refine z_met (by decide) (Nat.le_of_ble_eq_true rfl) (fun p e s m below meth c ls hsz hl C0 hr hnm hP hS => ?_)
  subst hsz
  have hl : lv_has ls 5 [(0, .ref (ad n)), (1, .int (nI iz))] := hl
  have hx := C0.1; have hb := C0.2.1; have hown := C0.2.2.2.1; have hts := C0.2.2.2.2.1
  have hFr : zFr (zRg n (n + 9)) g g := zFr.rf
  refine lv_aload_n hx hb dX5_mends_0 rfl (lv_at hl 0 rfl) ?_
  refine lv_iload_n hx hb dX5_mends_1 rfl (lv_at hl 1 rfl) ?_
  refine z_Vi_eq (As := [.int (nI iz)]) (rest := []) C0 hP hS hl.1 (m_X5_lacks l _ hM hi hpc) lk_X5_79 hM.n0 hM.o rfl rfl (Nat.le_of_ble_eq_true rfl) ⟨Nat.le_of_ble_eq_true rfl, Nat.le_of_ble_eq_true rfl⟩ rfl rfl ⟨Nat.zero_le _, Nat.zero_le _⟩ dX5_mends_2 (fun H locs hP hS => ?_)
  refine lv_istore_n (lv' := [(2, .int (cLack sx iz)), (0, .ref (ad n)), (1, .int (nI iz))]) hx hb dX5_mends_5 rfl hl (by decide) rfl (fun ls hl => ?_)
  refine lv_iload_n hx hb dX5_mends_6 rfl (lv_at hl 0 rfl) ?_
  refine lv_if_ne (tgt := 14) hx hb dX5_mends_7 (by decide) (fun c_7 => ?_) (fun c_7 => ?_)
  · refine lv_aload_n hx hb dX5_mends_14 rfl (lv_at hl 1 rfl) ?_
    refine lv_iload_n hx hb dX5_mends_15 rfl (lv_at hl 2 rfl) ?_
    refine lv_iload_n hx hb dX5_mends_16 rfl (lv_at hl 0 rfl) ?_
    refine z_Vi_mo (As := [.int (nI iz), .int (cLack sx iz)]) (rest := []) C0 hP hS hl.1 (m_X5_lays l _ hM hi) lk_X5_67 hM.n0 hM.o rfl rfl (Nat.le_of_ble_eq_true rfl) ⟨Nat.le_of_ble_eq_true rfl, Nat.le_of_ble_eq_true rfl⟩ rfl rfl ⟨Nat.zero_le _, Nat.zero_le _⟩ dX5_mends_17 (fun r_17 g_1 H locs hP hS hp => ?_)
    obtain ⟨hr_17, hM, hF1⟩ := hp
    subst hr_17
    have hFr := hFr.tr (hF1.mono (by intro x9 hx9; first | (dsimp only [zOne, zRg, zCl] at hx9 ⊢; omega) | (dsimp only at hx9 ⊢; omega) | omega))
    refine lv_istore_n (lv' := [(3, .int (cRef sx iz (cLack sx iz))), (2, .int (cLack sx iz)), (0, .ref (ad n)), (1, .int (nI iz))]) hx hb dX5_mends_20 rfl hl (by decide) rfl (fun ls hl => ?_)
    refine lv_iload_n hx hb dX5_mends_21 rfl (lv_at hl 0 rfl) ?_
    refine lv_if_le (tgt := 38) hx hb dX5_mends_22 (by decide) (fun c_22 => ?_) (fun c_22 => ?_)
    · have hq : cRef sx iz (cLack sx iz) = 0 ∧ cTold sx iz + cLack sx iz ≤ 999999 := ref_le c_22
      refine lv_iload_n hx hb dX5_mends_38 rfl (lv_at hl 1 rfl) ?_
      refine lv_if_ne (tgt := 46) hx hb dX5_mends_39 (by decide) (fun c_39 => ?_) (fun c_39 => absurd c_39 c_7)
      refine lv_aload_n hx hb dX5_mends_46 rfl (lv_at hl 2 rfl) ?_
      refine lv_iload_n hx hb dX5_mends_47 rfl (lv_at hl 3 rfl) ?_
      refine z_Vi_mo (As := [.int (nI iz)]) (rest := []) C0 hP hS hl.1 (m_X5_knits l _ hM hi) lk_X5_73 hM.n0 hM.o rfl rfl (Nat.le_of_ble_eq_true rfl) ⟨Nat.le_of_ble_eq_true rfl, Nat.le_of_ble_eq_true rfl⟩ rfl rfl ⟨Nat.zero_le _, Nat.zero_le _⟩ dX5_mends_48 (fun r_48 g_2 H locs hP hS hp => ?_)
      obtain ⟨hr_48, hM, hF1⟩ := hp
      subst hr_48
      have hFr := hFr.tr (hF1.mono (by intro x9 hx9; first | (dsimp only [zOne, zRg, zCl] at hx9 ⊢; omega) | (dsimp only at hx9 ⊢; omega) | omega))
      rw [knit_eq hq.2] at hM
      refine lv_istore (lv' := [(4, .int (sumN (layB sx iz (cLack sx iz) lo) 6)), (3, .int (cRef sx iz (cLack sx iz))), (2, .int (cLack sx iz)), (0, .ref (ad n)), (1, .int (nI iz))]) hx hb dX5_mends_51 hl (by decide) rfl (fun ls hl => ?_)
      refine lv_iload_n hx hb dX5_mends_53 rfl (lv_at hl 2 rfl) ?_
      exact z_iret C0 hP hS hr (⟨by unfold mendR; rw [if_neg c_7, if_pos hq.1], ⟨_, _, by unfold mendS; rw [if_neg c_7, if_pos hq.1]; exact hM⟩, hFr⟩) dX5_mends_54
    · have hq : ¬ cRef sx iz (cLack sx iz) = 0 := fun q => c_22 (by rw [q]; decide)
      refine lv_aload_n hx hb dX5_mends_25 rfl (lv_at hl 2 rfl) ?_
      refine z_get C0 hP hM.n0 hM.o fd_X5_7 rfl dX5_mends_26 ?_
      refine lv_iconst (v := 4) hx hb dX5_mends_29 (by decide) ?_
      refine lv_dup2_11 hx hb dX5_mends_30 rfl rfl ?_
      refine z_iald C0 hP hM.n1 hM.a_s (zIx_nI (j := 4) (by decide) (by decide)) dX5_mends_31 ?_
      refine lv_iconst (v := 1) hx hb dX5_mends_32 (by decide) ?_
      refine lv_iadd hx hb dX5_mends_33 ?_
      refine zp_M_s C0 hP hS hM hFr (by first | rfl | (dsimp only [zOne, zRg, zCl]; omega) | (dsimp only; omega) | omega) (zIx_nI (j := 4) (by decide) (by decide)) dX5_mends_34 (fun g_3 H locs hP hS hM hFr hF1 => ?_)
      refine lv_iload_n hx hb dX5_mends_35 rfl (lv_at hl 0 rfl) ?_
      refine lv_ineg hx hb dX5_mends_36 ?_
      exact z_iret C0 hP hS hr (⟨by unfold mendR; rw [if_neg c_7, if_neg hq], ⟨_, _, by unfold mendS; rw [if_neg c_7, if_neg hq]; exact hM⟩, hFr⟩) dX5_mends_37
  · refine lv_iconst (v := 0) hx hb dX5_mends_10 (by decide) ?_
    refine lv_goto (tgt := 20) hx hb dX5_mends_11 (by decide) ?_
    refine lv_istore_n (lv' := [(3, .int 0), (2, .int (cLack sx iz)), (0, .ref (ad n)), (1, .int (nI iz))]) hx hb dX5_mends_20 rfl hl (by decide) rfl (fun ls hl => ?_)
    refine lv_iload_n hx hb dX5_mends_21 rfl (lv_at hl 0 rfl) ?_
    refine lv_if_le (tgt := 38) hx hb dX5_mends_22 (by decide) (fun c_22 => ?_) (fun c_22 => absurd (by decide) c_22)
    refine lv_iload_n hx hb dX5_mends_38 rfl (lv_at hl 1 rfl) ?_
    refine lv_if_ne (tgt := 46) hx hb dX5_mends_39 (by decide) (fun c_39 => absurd c_7 c_39) (fun c_39 => ?_)
    refine lv_iconst (v := 0) hx hb dX5_mends_42 (by decide) ?_
    refine lv_goto (tgt := 51) hx hb dX5_mends_43 (by decide) ?_
    refine lv_istore (lv' := [(4, .int 0), (3, .int 0), (2, .int (cLack sx iz)), (0, .ref (ad n)), (1, .int (nI iz))]) hx hb dX5_mends_51 hl (by decide) rfl (fun ls hl => ?_)
    refine lv_iload_n hx hb dX5_mends_53 rfl (lv_at hl 2 rfl) ?_
    exact z_iret C0 hP hS hr (⟨by unfold mendR; rw [if_pos c_7]; exact c_7, ⟨_, _, by unfold mendS; rw [if_pos c_7]; exact hM⟩, hFr⟩) dX5_mends_54
set_option maxHeartbeats 4000000 in
set_option maxRecDepth 100000 in
theorem m_X5_tie (l : Launch) {D : va_G} {cy : Nat → ClassId} {K : Nat} {ad : Nat → Nat} {g : Nat → va_E} (sz : Nat) {n : Nat} {sx az so ik sv tx kn lo : Nat → Int32} {th lz : Int32} {dg : Int64} {mz : Nat} {iz : Nat} {num : Int32} (hM : isM cy K ad g n sx az so ik sv tx kn lo th ((nI mz)) lz dg) (hmz : mz ≤ 6) (hi : iz < 7) (hn1 : ¬ num < 1) (hn2 : num ≤ 999999) (hpc : pcOK sx) : Met l yX5_tie (zs yX5_tie cX5_tie 3 (some .int)) ({ frames := 7, cells := 0, slots := 0, locals := 161 } : Room) (va_Pc [.ref (ad n), .int (nI iz), .int num] (zIn D cy K ad g sz)) (va_Qi (fun r g1 => r = tieR sx iz num ∧ (∃ kn lo : Nat → Int32, isM cy K ad g1 n (tieS sx iz num) az so ik (svS sv mz sx) tx kn lo 0 (nI (svM mz + 1)) lz dg) ∧ zFr (zRg n (n + 9)) g g1) (zOut D cy K ad sz) (zA K ad sz)) 0 0 (zA K ad sz) := by
  refine z_met (by decide) (Nat.le_of_ble_eq_true rfl) (fun p e s m below meth c ls hsz hl C0 hr hnm hP hS => ?_)
  subst hsz
  have hl : lv_has ls 3 [(0, .ref (ad n)), (1, .int (nI iz)), (2, .int num)] := hl
  have hx := C0.1; have hb := C0.2.1; have hown := C0.2.2.2.1; have hts := C0.2.2.2.2.1
  have hFr : zFr (zRg n (n + 9)) g g := zFr.rf
  refine lv_aload_n hx hb dX5_tie_0 rfl (lv_at hl 0 rfl) ?_
  refine lv_iload_n hx hb dX5_tie_1 rfl (lv_at hl 1 rfl) ?_
  refine z_Si_eq (As := [.int (nI iz)]) (rest := [.ref (ad n)]) C0 hP hS hl.1 (m_X5_isCord l _ ) lk_X5_82 rfl rfl (Nat.le_of_ble_eq_true rfl) ⟨Nat.le_of_ble_eq_true rfl, Nat.le_of_ble_eq_true rfl⟩ rfl rfl ⟨Nat.zero_le _, Nat.zero_le _⟩ dX5_tie_2 (fun H locs hP hS => ?_)
  refine z_topi (y := 1) (zc1 hi) ?_
  refine lv_if_ne (tgt := 12) hx hb dX5_tie_5 (by decide) (fun c_5 => ?_) (fun c_5 => absurd c_5 (by decide))
  refine lv_iload_n hx hb dX5_tie_12 rfl (lv_at hl 2 rfl) ?_
  refine lv_iconst (v := 1) hx hb dX5_tie_13 (by decide) ?_
  refine lv_ldc hx hb hown (hts _ q824) dX5_tie_14 ?_
  refine z_Si_eq (As := [.int num, .int 1, .int 999999]) (rest := [.ref (ad n)]) C0 hP hS hl.1 (m_X5_in l _ ) lk_X5_39 rfl rfl (Nat.le_of_ble_eq_true rfl) ⟨Nat.le_of_ble_eq_true rfl, Nat.le_of_ble_eq_true rfl⟩ rfl rfl ⟨Nat.zero_le _, Nat.zero_le _⟩ dX5_tie_16 (fun H locs hP hS => ?_)
  refine z_topi (y := 1) (if_pos ⟨Int32.not_lt.mp hn1, hn2⟩) ?_
  refine lv_if_ne (tgt := 26) hx hb dX5_tie_19 (by decide) (fun c_19 => ?_) (fun c_19 => absurd c_19 (by decide))
  refine lv_iconst (v := 0) hx hb dX5_tie_26 (by decide) ?_
  refine z_Vi_mo (As := [.int 0]) (rest := []) C0 hP hS hl.1 (m_X5_holds l _ hM) lk_X5_86 hM.n0 hM.o rfl rfl (Nat.le_of_ble_eq_true rfl) ⟨Nat.le_of_ble_eq_true rfl, Nat.le_of_ble_eq_true rfl⟩ rfl rfl ⟨Nat.zero_le _, Nat.zero_le _⟩ dX5_tie_27 (fun r_27 g_1 H locs hP hS hp => ?_)
  obtain ⟨hr_27, hM, hF1⟩ := hp
  subst hr_27
  have hFr := hFr.tr (hF1.mono (by intro x9 hx9; first | (dsimp only [zOne, zRg, zCl] at hx9 ⊢; omega) | (dsimp only at hx9 ⊢; omega) | omega))
  refine z_topi (y := 1) (if_pos rfl) ?_
  refine lv_if_ne (tgt := 35) hx hb dX5_tie_30 (by decide) (fun c_30 => ?_) (fun c_30 => absurd c_30 (by decide))
  refine lv_aload_n hx hb dX5_tie_35 rfl (lv_at hl 0 rfl) ?_
  refine z_Vv_mo (As := []) (rest := []) C0 hP hS hl.1 (m_X5_save l _ hM hmz) lk_X5_89 hM.n0 hM.o rfl rfl (Nat.le_of_ble_eq_true rfl) ⟨Nat.le_of_ble_eq_true rfl, Nat.le_of_ble_eq_true rfl⟩ rfl rfl ⟨Nat.zero_le _, Nat.zero_le _⟩ dX5_tie_36 (fun g_2 H locs hP hS hp => ?_)
  obtain ⟨hM, hF1⟩ := hp
  have hFr := hFr.tr (hF1.mono (by intro x9 hx9; first | (dsimp only [zOne, zRg, zCl] at hx9 ⊢; omega) | (dsimp only at hx9 ⊢; omega) | omega))
  refine lv_aload_n hx hb dX5_tie_39 rfl (lv_at hl 0 rfl) ?_
  refine lv_iload_n hx hb dX5_tie_40 rfl (lv_at hl 1 rfl) ?_
  refine lv_iload_n hx hb dX5_tie_41 rfl (lv_at hl 2 rfl) ?_
  refine z_Vi_mo (As := [.int (nI iz), .int num]) (rest := []) C0 hP hS hl.1 (m_X5_tiesPart l _ hM hi hpc) lk_X5_76 hM.n0 hM.o rfl rfl (Nat.le_of_ble_eq_true rfl) ⟨Nat.le_of_ble_eq_true rfl, Nat.le_of_ble_eq_true rfl⟩ rfl rfl ⟨Nat.zero_le _, Nat.zero_le _⟩ dX5_tie_42 (fun r_42 g_3 H locs hP hS hp => ?_)
  obtain ⟨hr_42, ⟨kn1, lo1, hM⟩, hF1⟩ := hp
  subst hr_42
  have hFr := hFr.tr (hF1.mono (by intro x9 hx9; first | (dsimp only [zOne, zRg, zCl] at hx9 ⊢; omega) | (dsimp only at hx9 ⊢; omega) | omega))
  exact z_iret C0 hP hS hr (⟨rfl, ⟨_, _, hM⟩, hFr⟩) dX5_tie_45
set_option maxHeartbeats 4000000 in
set_option maxRecDepth 100000 in
theorem m_X5_add (l : Launch) {D : va_G} {cy : Nat → ClassId} {K : Nat} {ad : Nat → Nat} {g : Nat → va_E} (sz : Nat) {n : Nat} {sx az so ik sv tx kn lo : Nat → Int32} {th lz : Int32} {dg : Int64} {mz : Nat} {iz jz : Nat} (hM : isM cy K ad g n sx az so ik sv tx kn lo th ((nI mz)) lz dg) (hmz : mz ≤ 6) (hi : iz < 7) (hj : jz < 7) (hij : iz ≠ jz) (hpc : pcOK sx) : Met l yX5_add (zs yX5_add cX5_add 3 (some .int)) ({ frames := 8, cells := 0, slots := 0, locals := 183 } : Room) (va_Pc [.ref (ad n), .int (nI iz), .int (nI jz)] (zIn D cy K ad g sz)) (va_Qi (fun r g1 => r = addR sx iz jz ∧ (∃ kn lo : Nat → Int32, isM cy K ad g1 n (addS sx iz jz) az so ik (svS sv mz sx) tx kn lo 0 (nI (svM mz + 1)) lz dg) ∧ zFr (zRg n (n + 9)) g g1) (zOut D cy K ad sz) (zA K ad sz)) 0 0 (zA K ad sz) := by
  refine z_met (by decide) (Nat.le_of_ble_eq_true rfl) (fun p e s m below meth c ls hsz hl C0 hr hnm hP hS => ?_)
  subst hsz
  have hl : lv_has ls 3 [(0, .ref (ad n)), (1, .int (nI iz)), (2, .int (nI jz))] := hl
  have hx := C0.1; have hb := C0.2.1; have hown := C0.2.2.2.1; have hts := C0.2.2.2.2.1
  have hFr : zFr (zRg n (n + 9)) g g := zFr.rf
  refine lv_aload_n hx hb dX5_add_0 rfl (lv_at hl 0 rfl) ?_
  refine lv_iload_n hx hb dX5_add_1 rfl (lv_at hl 1 rfl) ?_
  refine z_Si_eq (As := [.int (nI iz)]) (rest := [.ref (ad n)]) C0 hP hS hl.1 (m_X5_isCord l _ ) lk_X5_82 rfl rfl (Nat.le_of_ble_eq_true rfl) ⟨Nat.le_of_ble_eq_true rfl, Nat.le_of_ble_eq_true rfl⟩ rfl rfl ⟨Nat.zero_le _, Nat.zero_le _⟩ dX5_add_2 (fun H locs hP hS => ?_)
  refine z_topi (y := 1) (zc1 hi) ?_
  refine lv_if_eq (tgt := 15) hx hb dX5_add_5 (by decide) (fun c_5 => absurd c_5 (by decide)) (fun c_5 => ?_)
  refine lv_iload_n hx hb dX5_add_8 rfl (lv_at hl 2 rfl) ?_
  refine z_Si_eq (As := [.int (nI jz)]) (rest := [.ref (ad n)]) C0 hP hS hl.1 (m_X5_isCord l _ ) lk_X5_82 rfl rfl (Nat.le_of_ble_eq_true rfl) ⟨Nat.le_of_ble_eq_true rfl, Nat.le_of_ble_eq_true rfl⟩ rfl rfl ⟨Nat.zero_le _, Nat.zero_le _⟩ dX5_add_9 (fun H locs hP hS => ?_)
  refine z_topi (y := 1) (zc1 hj) ?_
  refine lv_if_ne (tgt := 19) hx hb dX5_add_12 (by decide) (fun c_12 => ?_) (fun c_12 => absurd c_12 (by decide))
  refine lv_iload_n hx hb dX5_add_19 rfl (lv_at hl 1 rfl) ?_
  refine lv_iload_n hx hb dX5_add_20 rfl (lv_at hl 2 rfl) ?_
  refine lv_icmp_ne (tgt := 28) hx hb dX5_add_21 (by decide) (fun c_21 => ?_) (fun c_21 => absurd ((nI_eq (by omega) (by omega)).mp c_21) hij)
  refine lv_iconst (v := 0) hx hb dX5_add_28 (by decide) ?_
  refine z_Vi_mo (As := [.int 0]) (rest := []) C0 hP hS hl.1 (m_X5_holds l _ hM) lk_X5_86 hM.n0 hM.o rfl rfl (Nat.le_of_ble_eq_true rfl) ⟨Nat.le_of_ble_eq_true rfl, Nat.le_of_ble_eq_true rfl⟩ rfl rfl ⟨Nat.zero_le _, Nat.zero_le _⟩ dX5_add_29 (fun r_29 g_1 H locs hP hS hp => ?_)
  obtain ⟨hr_29, hM, hF1⟩ := hp
  subst hr_29
  have hFr := hFr.tr (hF1.mono (by intro x9 hx9; first | (dsimp only [zOne, zRg, zCl] at hx9 ⊢; omega) | (dsimp only at hx9 ⊢; omega) | omega))
  refine z_topi (y := 1) (if_pos rfl) ?_
  refine lv_if_ne (tgt := 37) hx hb dX5_add_32 (by decide) (fun c_32 => ?_) (fun c_32 => absurd c_32 (by decide))
  refine lv_aload_n hx hb dX5_add_37 rfl (lv_at hl 0 rfl) ?_
  refine z_Vv_mo (As := []) (rest := []) C0 hP hS hl.1 (m_X5_save l _ hM hmz) lk_X5_89 hM.n0 hM.o rfl rfl (Nat.le_of_ble_eq_true rfl) ⟨Nat.le_of_ble_eq_true rfl, Nat.le_of_ble_eq_true rfl⟩ rfl rfl ⟨Nat.zero_le _, Nat.zero_le _⟩ dX5_add_38 (fun g_2 H locs hP hS hp => ?_)
  obtain ⟨hM, hF1⟩ := hp
  have hFr := hFr.tr (hF1.mono (by intro x9 hx9; first | (dsimp only [zOne, zRg, zCl] at hx9 ⊢; omega) | (dsimp only at hx9 ⊢; omega) | omega))
  refine lv_aload_n hx hb dX5_add_41 rfl (lv_at hl 0 rfl) ?_
  refine lv_iload_n hx hb dX5_add_42 rfl (lv_at hl 1 rfl) ?_
  refine lv_iload_n hx hb dX5_add_43 rfl (lv_at hl 2 rfl) ?_
  refine z_Vi_mo (As := [.int (nI iz), .int (nI jz)]) (rest := []) C0 hP hS hl.1 (m_X5_adds l _ hM hi hj hpc) lk_X5_92 hM.n0 hM.o rfl rfl (Nat.le_of_ble_eq_true rfl) ⟨Nat.le_of_ble_eq_true rfl, Nat.le_of_ble_eq_true rfl⟩ rfl rfl ⟨Nat.zero_le _, Nat.zero_le _⟩ dX5_add_44 (fun r_44 g_3 H locs hP hS hp => ?_)
  obtain ⟨hr_44, ⟨kn1, lo1, hM⟩, hF1⟩ := hp
  subst hr_44
  have hFr := hFr.tr (hF1.mono (by intro x9 hx9; first | (dsimp only [zOne, zRg, zCl] at hx9 ⊢; omega) | (dsimp only at hx9 ⊢; omega) | omega))
  exact z_iret C0 hP hS hr (⟨rfl, ⟨_, _, hM⟩, hFr⟩) dX5_add_47
set_option maxHeartbeats 4000000 in
set_option maxRecDepth 100000 in
theorem m_X5_slip (l : Launch) {D : va_G} {cy : Nat → ClassId} {K : Nat} {ad : Nat → Nat} {g : Nat → va_E} (sz : Nat) {n : Nat} {sx az so ik sv tx kn lo : Nat → Int32} {th lz : Int32} {dg : Int64} {mz : Nat} {iz jz : Nat} (hM : isM cy K ad g n sx az so ik sv tx kn lo th ((nI mz)) lz dg) (hmz : mz ≤ 6) (hi : iz < 7) (hj : jz < 6) : Met l yX5_slip (zs yX5_slip cX5_slip 3 (some .int)) ({ frames := 4, cells := 0, slots := 0, locals := 87 } : Room) (va_Pc [.ref (ad n), .int (nI iz), .int (nI jz)] (zIn D cy K ad g sz)) (va_Qi (fun r g1 => r = slipR sx iz jz ∧ isM cy K ad g1 n (slipS sx iz jz) az so ik (svS sv mz sx) tx kn lo 0 (nI (svM mz + 1)) lz dg ∧ zFr (zRg n (n + 9)) g g1) (zOut D cy K ad sz) (zA K ad sz)) 0 0 (zA K ad sz) := by
  refine z_met (by decide) (Nat.le_of_ble_eq_true rfl) (fun p e s m below meth c ls hsz hl C0 hr hnm hP hS => ?_)
  subst hsz
  have hl : lv_has ls 3 [(0, .ref (ad n)), (1, .int (nI iz)), (2, .int (nI jz))] := hl
  have hx := C0.1; have hb := C0.2.1; have hown := C0.2.2.2.1; have hts := C0.2.2.2.2.1
  have hFr : zFr (zRg n (n + 9)) g g := zFr.rf
  refine lv_aload_n hx hb dX5_slip_0 rfl (lv_at hl 0 rfl) ?_
  refine lv_iload_n hx hb dX5_slip_1 rfl (lv_at hl 1 rfl) ?_
  refine z_Si_eq (As := [.int (nI iz)]) (rest := [.ref (ad n)]) C0 hP hS hl.1 (m_X5_isCord l _ ) lk_X5_82 rfl rfl (Nat.le_of_ble_eq_true rfl) ⟨Nat.le_of_ble_eq_true rfl, Nat.le_of_ble_eq_true rfl⟩ rfl rfl ⟨Nat.zero_le _, Nat.zero_le _⟩ dX5_slip_2 (fun H locs hP hS => ?_)
  refine z_topi (y := 1) (zc1 hi) ?_
  refine lv_if_eq (tgt := 21) hx hb dX5_slip_5 (by decide) (fun c_5 => absurd c_5 (by decide)) (fun c_5 => ?_)
  refine lv_iload_n hx hb dX5_slip_8 rfl (lv_at hl 2 rfl) ?_
  refine lv_iconst (v := 0) hx hb dX5_slip_9 (by decide) ?_
  refine lv_iconst (v := 5) hx hb dX5_slip_10 (by decide) ?_
  refine z_Si_eq (As := [.int (nI jz), .int 0, .int 5]) (rest := [.ref (ad n)]) C0 hP hS hl.1 (m_X5_in l _ ) lk_X5_39 rfl rfl (Nat.le_of_ble_eq_true rfl) ⟨Nat.le_of_ble_eq_true rfl, Nat.le_of_ble_eq_true rfl⟩ rfl rfl ⟨Nat.zero_le _, Nat.zero_le _⟩ dX5_slip_11 (fun H locs hP hS => ?_)
  refine z_topi (y := 1) (zc1' (m := 5) (by omega) (by decide)) ?_
  refine lv_if_eq (tgt := 21) hx hb dX5_slip_14 (by decide) (fun c_14 => absurd c_14 (by decide)) (fun c_14 => ?_)
  refine lv_iconst (v := 0) hx hb dX5_slip_17 (by decide) ?_
  refine lv_goto (tgt := 22) hx hb dX5_slip_18 (by decide) ?_
  refine z_Vi_mo (As := [.int 0]) (rest := []) C0 hP hS hl.1 (m_X5_holds l _ hM) lk_X5_86 hM.n0 hM.o rfl rfl (Nat.le_of_ble_eq_true rfl) ⟨Nat.le_of_ble_eq_true rfl, Nat.le_of_ble_eq_true rfl⟩ rfl rfl ⟨Nat.zero_le _, Nat.zero_le _⟩ dX5_slip_22 (fun r_22 g_1 H locs hP hS hp => ?_)
  obtain ⟨hr_22, hM, hF1⟩ := hp
  subst hr_22
  have hFr := hFr.tr (hF1.mono (by intro x9 hx9; first | (dsimp only [zOne, zRg, zCl] at hx9 ⊢; omega) | (dsimp only at hx9 ⊢; omega) | omega))
  refine z_topi (y := 1) (if_pos rfl) ?_
  refine lv_if_ne (tgt := 30) hx hb dX5_slip_25 (by decide) (fun c_25 => ?_) (fun c_25 => absurd c_25 (by decide))
  refine lv_aload_n hx hb dX5_slip_30 rfl (lv_at hl 0 rfl) ?_
  refine z_Vv_mo (As := []) (rest := []) C0 hP hS hl.1 (m_X5_save l _ hM hmz) lk_X5_89 hM.n0 hM.o rfl rfl (Nat.le_of_ble_eq_true rfl) ⟨Nat.le_of_ble_eq_true rfl, Nat.le_of_ble_eq_true rfl⟩ rfl rfl ⟨Nat.zero_le _, Nat.zero_le _⟩ dX5_slip_31 (fun g_2 H locs hP hS hp => ?_)
  obtain ⟨hM, hF1⟩ := hp
  have hFr := hFr.tr (hF1.mono (by intro x9 hx9; first | (dsimp only [zOne, zRg, zCl] at hx9 ⊢; omega) | (dsimp only at hx9 ⊢; omega) | omega))
  refine lv_aload_n hx hb dX5_slip_34 rfl (lv_at hl 0 rfl) ?_
  refine lv_iload_n hx hb dX5_slip_35 rfl (lv_at hl 1 rfl) ?_
  refine lv_iload_n hx hb dX5_slip_36 rfl (lv_at hl 2 rfl) ?_
  refine z_Vi_mo (As := [.int (nI iz), .int (nI jz)]) (rest := []) C0 hP hS hl.1 (m_X5_slips l _ hM hi hj) lk_X5_95 hM.n0 hM.o rfl rfl (Nat.le_of_ble_eq_true rfl) ⟨Nat.le_of_ble_eq_true rfl, Nat.le_of_ble_eq_true rfl⟩ rfl rfl ⟨Nat.zero_le _, Nat.zero_le _⟩ dX5_slip_37 (fun r_37 g_3 H locs hP hS hp => ?_)
  obtain ⟨hr_37, hM, hF1⟩ := hp
  subst hr_37
  have hFr := hFr.tr (hF1.mono (by intro x9 hx9; first | (dsimp only [zOne, zRg, zCl] at hx9 ⊢; omega) | (dsimp only at hx9 ⊢; omega) | omega))
  exact z_iret C0 hP hS hr (⟨rfl, hM, hFr⟩) dX5_slip_40
set_option maxHeartbeats 4000000 in
set_option maxRecDepth 100000 in
theorem m_X5_mend (l : Launch) {D : va_G} {cy : Nat → ClassId} {K : Nat} {ad : Nat → Nat} {g : Nat → va_E} (sz : Nat) {n : Nat} {sx az so ik sv tx kn lo : Nat → Int32} {th lz : Int32} {dg : Int64} {mz : Nat} {iz : Nat} (hM : isM cy K ad g n sx az so ik sv tx kn lo th ((nI mz)) lz dg) (hmz : mz ≤ 6) (hi : iz < 7) (hpc : pcOK sx) : Met l yX5_mend (zs yX5_mend cX5_mend 2 (some .int)) ({ frames := 6, cells := 0, slots := 0, locals := 140 } : Room) (va_Pc [.ref (ad n), .int (nI iz)] (zIn D cy K ad g sz)) (va_Qi (fun r g1 => r = mendR sx iz ∧ (∃ kn lo : Nat → Int32, isM cy K ad g1 n (mendS sx iz) az so ik (svS sv mz sx) tx kn lo 0 (nI (svM mz + 1)) lz dg) ∧ zFr (zRg n (n + 9)) g g1) (zOut D cy K ad sz) (zA K ad sz)) 0 0 (zA K ad sz) := by
  refine z_met (by decide) (Nat.le_of_ble_eq_true rfl) (fun p e s m below meth c ls hsz hl C0 hr hnm hP hS => ?_)
  subst hsz
  have hl : lv_has ls 2 [(0, .ref (ad n)), (1, .int (nI iz))] := hl
  have hx := C0.1; have hb := C0.2.1; have hown := C0.2.2.2.1; have hts := C0.2.2.2.2.1
  have hFr : zFr (zRg n (n + 9)) g g := zFr.rf
  refine lv_aload_n hx hb dX5_mend_0 rfl (lv_at hl 0 rfl) ?_
  refine lv_iload_n hx hb dX5_mend_1 rfl (lv_at hl 1 rfl) ?_
  refine z_Si_eq (As := [.int (nI iz)]) (rest := [.ref (ad n)]) C0 hP hS hl.1 (m_X5_isCord l _ ) lk_X5_82 rfl rfl (Nat.le_of_ble_eq_true rfl) ⟨Nat.le_of_ble_eq_true rfl, Nat.le_of_ble_eq_true rfl⟩ rfl rfl ⟨Nat.zero_le _, Nat.zero_le _⟩ dX5_mend_2 (fun H locs hP hS => ?_)
  refine z_topi (y := 1) (zc1 hi) ?_
  refine lv_if_eq (tgt := 12) hx hb dX5_mend_5 (by decide) (fun c_5 => absurd c_5 (by decide)) (fun c_5 => ?_)
  refine lv_iconst (v := 0) hx hb dX5_mend_8 (by decide) ?_
  refine lv_goto (tgt := 13) hx hb dX5_mend_9 (by decide) ?_
  refine z_Vi_mo (As := [.int 0]) (rest := []) C0 hP hS hl.1 (m_X5_holds l _ hM) lk_X5_86 hM.n0 hM.o rfl rfl (Nat.le_of_ble_eq_true rfl) ⟨Nat.le_of_ble_eq_true rfl, Nat.le_of_ble_eq_true rfl⟩ rfl rfl ⟨Nat.zero_le _, Nat.zero_le _⟩ dX5_mend_13 (fun r_13 g_1 H locs hP hS hp => ?_)
  obtain ⟨hr_13, hM, hF1⟩ := hp
  subst hr_13
  have hFr := hFr.tr (hF1.mono (by intro x9 hx9; first | (dsimp only [zOne, zRg, zCl] at hx9 ⊢; omega) | (dsimp only at hx9 ⊢; omega) | omega))
  refine z_topi (y := 1) (if_pos rfl) ?_
  refine lv_if_ne (tgt := 21) hx hb dX5_mend_16 (by decide) (fun c_16 => ?_) (fun c_16 => absurd c_16 (by decide))
  refine lv_aload_n hx hb dX5_mend_21 rfl (lv_at hl 0 rfl) ?_
  refine z_Vv_mo (As := []) (rest := []) C0 hP hS hl.1 (m_X5_save l _ hM hmz) lk_X5_89 hM.n0 hM.o rfl rfl (Nat.le_of_ble_eq_true rfl) ⟨Nat.le_of_ble_eq_true rfl, Nat.le_of_ble_eq_true rfl⟩ rfl rfl ⟨Nat.zero_le _, Nat.zero_le _⟩ dX5_mend_22 (fun g_2 H locs hP hS hp => ?_)
  obtain ⟨hM, hF1⟩ := hp
  have hFr := hFr.tr (hF1.mono (by intro x9 hx9; first | (dsimp only [zOne, zRg, zCl] at hx9 ⊢; omega) | (dsimp only at hx9 ⊢; omega) | omega))
  refine lv_aload_n hx hb dX5_mend_25 rfl (lv_at hl 0 rfl) ?_
  refine lv_iload_n hx hb dX5_mend_26 rfl (lv_at hl 1 rfl) ?_
  refine z_Vi_mo (As := [.int (nI iz)]) (rest := []) C0 hP hS hl.1 (m_X5_mends l _ hM hi hpc) lk_X5_98 hM.n0 hM.o rfl rfl (Nat.le_of_ble_eq_true rfl) ⟨Nat.le_of_ble_eq_true rfl, Nat.le_of_ble_eq_true rfl⟩ rfl rfl ⟨Nat.zero_le _, Nat.zero_le _⟩ dX5_mend_27 (fun r_27 g_3 H locs hP hS hp => ?_)
  obtain ⟨hr_27, ⟨kn1, lo1, hM⟩, hF1⟩ := hp
  subst hr_27
  have hFr := hFr.tr (hF1.mono (by intro x9 hx9; first | (dsimp only [zOne, zRg, zCl] at hx9 ⊢; omega) | (dsimp only at hx9 ⊢; omega) | omega))
  exact z_iret C0 hP hS hr (⟨rfl, ⟨_, _, hM⟩, hFr⟩) dX5_mend_30
set_option maxHeartbeats 4000000 in
set_option maxRecDepth 100000 in
theorem m_X5_renew (l : Launch) {D : va_G} {cy : Nat → ClassId} {K : Nat} {ad : Nat → Nat} {g : Nat → va_E} (sz : Nat) {n : Nat} {sx az so ik sv tx kn lo : Nat → Int32} {th lz : Int32} {dg : Int64} {mz : Nat} {iz : Nat} (hM : isM cy K ad g n sx az so ik sv tx kn lo th ((nI mz)) lz dg) (hmz : mz ≤ 6) (hi : iz < 7) : Met l yX5_renew (zs yX5_renew cX5_renew 4 (some .int)) ({ frames := 4, cells := 0, slots := 0, locals := 88 } : Room) (va_Pc [.ref (ad n), .int (nI iz)] (zIn D cy K ad g sz)) (va_Qi (fun r g1 => r = cTold sx iz ∧ isM cy K ad g1 n (renM sx iz) az so ik (svS sv mz sx) tx kn lo 0 (nI (svM mz + 1)) lz dg ∧ zFr (zRg n (n + 9)) g g1) (zOut D cy K ad sz) (zA K ad sz)) 0 0 (zA K ad sz) := by
  refine z_met (by decide) (Nat.le_of_ble_eq_true rfl) (fun p e s m below meth c ls hsz hl C0 hr hnm hP hS => ?_)
  subst hsz
  have hl : lv_has ls 4 [(0, .ref (ad n)), (1, .int (nI iz))] := hl
  have hx := C0.1; have hb := C0.2.1; have hown := C0.2.2.2.1; have hts := C0.2.2.2.2.1
  have hFr : zFr (zRg n (n + 9)) g g := zFr.rf
  refine lv_aload_n hx hb dX5_renew_0 rfl (lv_at hl 0 rfl) ?_
  refine lv_iload_n hx hb dX5_renew_1 rfl (lv_at hl 1 rfl) ?_
  refine z_Si_eq (As := [.int (nI iz)]) (rest := [.ref (ad n)]) C0 hP hS hl.1 (m_X5_isCord l _ ) lk_X5_82 rfl rfl (Nat.le_of_ble_eq_true rfl) ⟨Nat.le_of_ble_eq_true rfl, Nat.le_of_ble_eq_true rfl⟩ rfl rfl ⟨Nat.zero_le _, Nat.zero_le _⟩ dX5_renew_2 (fun H locs hP hS => ?_)
  refine z_topi (y := 1) (zc1 hi) ?_
  refine lv_if_eq (tgt := 12) hx hb dX5_renew_5 (by decide) (fun c_5 => absurd c_5 (by decide)) (fun c_5 => ?_)
  refine lv_iconst (v := 0) hx hb dX5_renew_8 (by decide) ?_
  refine lv_goto (tgt := 13) hx hb dX5_renew_9 (by decide) ?_
  refine z_Vi_mo (As := [.int 0]) (rest := []) C0 hP hS hl.1 (m_X5_holds l _ hM) lk_X5_86 hM.n0 hM.o rfl rfl (Nat.le_of_ble_eq_true rfl) ⟨Nat.le_of_ble_eq_true rfl, Nat.le_of_ble_eq_true rfl⟩ rfl rfl ⟨Nat.zero_le _, Nat.zero_le _⟩ dX5_renew_13 (fun r_13 g_1 H locs hP hS hp => ?_)
  obtain ⟨hr_13, hM, hF1⟩ := hp
  subst hr_13
  have hFr := hFr.tr (hF1.mono (by intro x9 hx9; first | (dsimp only [zOne, zRg, zCl] at hx9 ⊢; omega) | (dsimp only at hx9 ⊢; omega) | omega))
  refine z_topi (y := 1) (if_pos rfl) ?_
  refine lv_if_ne (tgt := 21) hx hb dX5_renew_16 (by decide) (fun c_16 => ?_) (fun c_16 => absurd c_16 (by decide))
  refine lv_aload_n hx hb dX5_renew_21 rfl (lv_at hl 0 rfl) ?_
  refine z_Vv_mo (As := []) (rest := []) C0 hP hS hl.1 (m_X5_save l _ hM hmz) lk_X5_89 hM.n0 hM.o rfl rfl (Nat.le_of_ble_eq_true rfl) ⟨Nat.le_of_ble_eq_true rfl, Nat.le_of_ble_eq_true rfl⟩ rfl rfl ⟨Nat.zero_le _, Nat.zero_le _⟩ dX5_renew_22 (fun g_2 H locs hP hS hp => ?_)
  obtain ⟨hM, hF1⟩ := hp
  have hFr := hFr.tr (hF1.mono (by intro x9 hx9; first | (dsimp only [zOne, zRg, zCl] at hx9 ⊢; omega) | (dsimp only at hx9 ⊢; omega) | omega))
  refine lv_aload_n hx hb dX5_renew_25 rfl (lv_at hl 0 rfl) ?_
  refine lv_iload_n hx hb dX5_renew_26 rfl (lv_at hl 1 rfl) ?_
  refine z_Vi_eq (As := [.int (nI iz)]) (rest := []) C0 hP hS hl.1 (m_X5_told l _ hM hi) lk_X5_60 hM.n0 hM.o rfl rfl (Nat.le_of_ble_eq_true rfl) ⟨Nat.le_of_ble_eq_true rfl, Nat.le_of_ble_eq_true rfl⟩ rfl rfl ⟨Nat.zero_le _, Nat.zero_le _⟩ dX5_renew_27 (fun H locs hP hS => ?_)
  refine lv_istore_n (lv' := [(2, .int (cTold sx iz)), (0, .ref (ad n)), (1, .int (nI iz))]) hx hb dX5_renew_30 rfl hl (by decide) rfl (fun ls hl => ?_)
  refine lv_aload_n hx hb dX5_renew_31 rfl (lv_at hl 1 rfl) ?_
  refine z_get C0 hP hM.n0 hM.o fd_X5_7 rfl dX5_renew_32 ?_
  refine lv_iconst (v := 3) hx hb dX5_renew_35 (by decide) ?_
  refine lv_dup2_11 hx hb dX5_renew_36 rfl rfl ?_
  refine z_iald C0 hP hM.n1 hM.a_s (zIx_nI (j := 3) (by decide) (by decide)) dX5_renew_37 ?_
  refine lv_aload_n hx hb dX5_renew_38 rfl (lv_at hl 1 rfl) ?_
  refine lv_iload_n hx hb dX5_renew_39 rfl (lv_at hl 2 rfl) ?_
  refine z_Vi_eq (As := [.int (nI iz)]) (rest := [.int (sx 3), .int 3, .ref (ad (n + 1))]) C0 hP hS hl.1 (m_X5_ties l _ hM hi) lk_X5_63 hM.n0 hM.o rfl rfl (Nat.le_of_ble_eq_true rfl) ⟨Nat.le_of_ble_eq_true rfl, Nat.le_of_ble_eq_true rfl⟩ rfl rfl ⟨Nat.zero_le _, Nat.zero_le _⟩ dX5_renew_40 (fun H locs hP hS => ?_)
  refine lv_iadd hx hb dX5_renew_43 ?_
  refine zp_M_s C0 hP hS hM hFr (by first | rfl | (dsimp only [zOne, zRg, zCl]; omega) | (dsimp only; omega) | omega) (zIx_nI (j := 3) (by decide) (by decide)) dX5_renew_44 (fun g_3 H locs hP hS hM hFr hF1 => ?_)
  have hM : isM cy K ad g_3 n (zrF (upd sx 3 (sx 3 + cTies sx iz)) iz 0) az so ik (svS sv mz sx) tx kn lo 0 (nI (svM mz + 1)) lz dg := by rw [zrF_0]; exact hM
  refine lv_iconst (v := (nI (1 + 0))) hx hb dX5_renew_45 (by decide) ?_
  refine lv_istore_n (lv' := [(3, .int (nI (1 + 0))), (2, .int (cTold sx iz)), (0, .ref (ad n)), (1, .int (nI iz))]) hx hb dX5_renew_46 rfl hl (by decide) rfl (fun ls hl => ?_)
  have lp_47 : ∀ (N : Nat) (kz : Nat) (hk : kz ≤ 30), 30 - kz < N → ∀ (g_4 : Nat → va_E) (H : Heap) (locs : List Loc) (ls : Array Slot), zP D K ad g_4 (zA K ad s.heap.size) H → va_S (zA K ad s.heap.size) s.heap H locs → isM cy K ad g_4 n (zrF (upd sx 3 (sx 3 + cTies sx iz)) iz kz) az so ik ((svS sv mz sx)) tx kn lo 0 ((nI (svM mz + 1))) lz dg → zFr (zRg n (n + 9)) g g_4 → lv_has ls 4 [(0, .ref (ad n)), (1, .int (nI iz)), (2, .int (cTold sx iz)), (3, .int (nI (1 + kz)))] → W p l e ({ frames := 4, cells := 0, slots := 0, locals := 88 } : Room) s m [.ref (ad n), .int (nI iz)].toArray below meth c H locs 0 0 (MQ below (va_Qi (fun r g1 => r = cTold sx iz ∧ isM cy K ad g1 n (renM sx iz) az so ik (svS sv mz sx) tx kn lo 0 (nI (svM mz + 1)) lz dg ∧ zFr (zRg n (n + 9)) g g1) (zOut D cy K ad s.heap.size) (zA K ad s.heap.size)) [.ref (ad n), .int (nI iz)].toArray s 0 0 (zA K ad s.heap.size)) (F0 m 47 ls []) := by
    intro N
    induction N with
    | zero => intro kz hk hN; exact absurd hN (Nat.not_lt_zero _)
    | succ N ih_47 =>
      intro kz hk hN g_4 H locs ls hP hS hM hFr hl
      refine lv_iload_n hx hb dX5_renew_47 rfl (lv_at hl 3 rfl) ?_
      refine lv_bipush (v := 31) hx hb dX5_renew_48 (by decide) ?_
      refine lv_icmp_ge (tgt := 70) hx hb dX5_renew_50 (by decide) (fun c_50 => ?_) (fun c_50 => ?_)
      · have hk2 : kz = 30 := by have := z_ge_t (b := 31) c_50 (by omega) (by omega); omega
        subst hk2
        refine lv_iload_n hx hb dX5_renew_70 rfl (lv_at hl 2 rfl) ?_
        exact z_iret C0 hP hS hr (⟨rfl, hM, hFr⟩) dX5_renew_71
      · have hk2 : kz < 30 := by have := z_ge_f (b := 31) c_50 (by omega) (by omega); omega
        refine lv_aload_n hx hb dX5_renew_53 rfl (lv_at hl 0 rfl) ?_
        refine z_get C0 hP hM.n0 hM.o fd_X5_7 rfl dX5_renew_54 ?_
        refine lv_iload_n hx hb dX5_renew_57 rfl (lv_at hl 1 rfl) ?_
        refine lv_iload_n hx hb dX5_renew_58 rfl (lv_at hl 3 rfl) ?_
        refine z_Si_eq (As := [.int (nI iz), .int (nI (1 + kz))]) (rest := [.ref (ad (n + 1))]) C0 hP hS hl.1 (m_X5_at l _ ) lk_X5_43 rfl rfl (Nat.le_of_ble_eq_true rfl) ⟨Nat.le_of_ble_eq_true rfl, Nat.le_of_ble_eq_true rfl⟩ rfl rfl ⟨Nat.zero_le _, Nat.zero_le _⟩ dX5_renew_59 (fun H locs hP hS => ?_)
        refine lv_iconst (v := 0) hx hb dX5_renew_62 (by decide) ?_
        refine zp_M_s C0 hP hS hM hFr (by first | rfl | (dsimp only [zOne, zRg, zCl]; omega) | (dsimp only; omega) | omega) (zIx_nI (by omega) (by decide)) dX5_renew_63 (fun g_5 H locs hP hS hM hFr hF1 => ?_)
        rw [zrF_up] at hM
        refine lv_iinc (v := nI (1 + (kz + 1))) (lv' := [(3, .int (nI (1 + (kz + 1)))), (0, .ref (ad n)), (1, .int (nI iz)), (2, .int (cTold sx iz))]) hx hb dX5_renew_64 hl (k := 3) rfl (z_inc _) (by decide) rfl (fun ls hl => ?_)
        refine lv_goto (tgt := 47) hx hb dX5_renew_67 (by decide) ?_
        exact ih_47 (kz + 1) hk2 (by omega) _ _ _ _ hP hS hM hFr (lv_sub hl [1, 2, 3, 0] rfl)
  exact lp_47 _ 0 (Nat.zero_le _) (Nat.lt_succ_self _) _ _ _ _ hP hS hM hFr (lv_sub hl [2, 3, 1, 0] rfl)
set_option maxHeartbeats 4000000 in
set_option maxRecDepth 100000 in
theorem m_X5_puts (l : Launch) {D : va_G} {cy : Nat → ClassId} {K : Nat} {ad : Nat → Nat} {g : Nat → va_E} (sz : Nat) {n : Nat} {sx az so ik sv tx kn lo : Nat → Int32} {th lz : Int32} {dg : Int64} {mz pz : Nat} {vz : Int32} (hM : isM cy K ad g n sx az so ik sv tx kn lo th ((nI mz)) lz dg) (hmz : mz ≤ 6) (hp : pz < 223) : Met l yX5_puts (zs yX5_puts cX5_puts 4 (some .int)) ({ frames := 1, cells := 0, slots := 0, locals := 21 } : Room) (va_Pc [.ref (ad n), .int (nI pz), .int vz] (zIn D cy K ad g sz)) (va_Qi (fun r g1 => r = sx pz ∧ isM cy K ad g1 n (upd sx pz vz) az so ik (svS sv mz sx) tx kn lo th (nI (svM mz + 1)) lz dg ∧ zFr (zRg n (n + 9)) g g1) (zOut D cy K ad sz) (zA K ad sz)) 0 0 (zA K ad sz) := by
  refine z_met (by decide) (Nat.le_of_ble_eq_true rfl) (fun p e s m below meth c ls hsz hl C0 hr hnm hP hS => ?_)
  subst hsz
  have hl : lv_has ls 4 [(0, .ref (ad n)), (1, .int (nI pz)), (2, .int vz)] := hl
  have hx := C0.1; have hb := C0.2.1; have hown := C0.2.2.2.1; have hts := C0.2.2.2.2.1
  have hFr : zFr (zRg n (n + 9)) g g := zFr.rf
  refine lv_aload_n hx hb dX5_puts_0 rfl (lv_at hl 0 rfl) ?_
  refine z_Vv_mo (As := []) (rest := []) C0 hP hS hl.1 (m_X5_save l _ hM hmz) lk_X5_89 hM.n0 hM.o rfl rfl (Nat.le_of_ble_eq_true rfl) ⟨Nat.le_of_ble_eq_true rfl, Nat.le_of_ble_eq_true rfl⟩ rfl rfl ⟨Nat.zero_le _, Nat.zero_le _⟩ dX5_puts_1 (fun g_1 H locs hP hS hp => ?_)
  obtain ⟨hM, hF1⟩ := hp
  have hFr := hFr.tr (hF1.mono (by intro x9 hx9; first | (dsimp only [zOne, zRg, zCl] at hx9 ⊢; omega) | (dsimp only at hx9 ⊢; omega) | omega))
  refine lv_aload_n hx hb dX5_puts_4 rfl (lv_at hl 0 rfl) ?_
  refine z_get C0 hP hM.n0 hM.o fd_X5_7 rfl dX5_puts_5 ?_
  refine lv_iload_n hx hb dX5_puts_8 rfl (lv_at hl 1 rfl) ?_
  refine z_iald C0 hP hM.n1 hM.a_s (zIx_nI (by omega) (by decide)) dX5_puts_9 ?_
  refine lv_istore_n (lv' := [(3, .int (sx pz)), (0, .ref (ad n)), (1, .int (nI pz)), (2, .int vz)]) hx hb dX5_puts_10 rfl hl (by decide) rfl (fun ls hl => ?_)
  refine lv_aload_n hx hb dX5_puts_11 rfl (lv_at hl 1 rfl) ?_
  refine z_get C0 hP hM.n0 hM.o fd_X5_7 rfl dX5_puts_12 ?_
  refine lv_iload_n hx hb dX5_puts_15 rfl (lv_at hl 2 rfl) ?_
  refine lv_iload_n hx hb dX5_puts_16 rfl (lv_at hl 3 rfl) ?_
  refine zp_M_s C0 hP hS hM hFr (by first | rfl | (dsimp only [zOne, zRg, zCl]; omega) | (dsimp only; omega) | omega) (zIx_nI (by omega) (by decide)) dX5_puts_17 (fun g_2 H locs hP hS hM hFr hF1 => ?_)
  refine lv_iload_n hx hb dX5_puts_18 rfl (lv_at hl 0 rfl) ?_
  exact z_iret C0 hP hS hr (⟨rfl, hM, hFr⟩) dX5_puts_19
set_option maxHeartbeats 4000000 in
set_option maxRecDepth 100000 in
theorem m_X5_dye (l : Launch) {D : va_G} {cy : Nat → ClassId} {K : Nat} {ad : Nat → Nat} {g : Nat → va_E} (sz : Nat) {n : Nat} {sx az so ik sv tx kn lo : Nat → Int32} {th lz : Int32} {dg : Int64} {mz : Nat} {iz : Nat} {hu : Int32} (hM : isM cy K ad g n sx az so ik sv tx kn lo th ((nI mz)) lz dg) (hmz : mz ≤ 6) (hi : iz < 7) (hu1 : ¬ hu < 0) (hu2 : hu < 6) : Met l yX5_dye (zs yX5_dye cX5_dye 3 (some .int)) ({ frames := 2, cells := 0, slots := 0, locals := 44 } : Room) (va_Pc [.ref (ad n), .int (nI iz), .int hu] (zIn D cy K ad g sz)) (va_Qi (fun r g1 => r = sx (6 + 31 * iz + 0) ∧ isM cy K ad g1 n (upd sx (6 + 31 * iz + 0) hu) az so ik (svS sv mz sx) tx kn lo 0 (nI (svM mz + 1)) lz dg ∧ zFr (zRg n (n + 9)) g g1) (zOut D cy K ad sz) (zA K ad sz)) 0 0 (zA K ad sz) := by
  refine z_met (by decide) (Nat.le_of_ble_eq_true rfl) (fun p e s m below meth c ls hsz hl C0 hr hnm hP hS => ?_)
  subst hsz
  have hl : lv_has ls 3 [(0, .ref (ad n)), (1, .int (nI iz)), (2, .int hu)] := hl
  have hx := C0.1; have hb := C0.2.1; have hown := C0.2.2.2.1; have hts := C0.2.2.2.2.1
  have hFr : zFr (zRg n (n + 9)) g g := zFr.rf
  refine lv_aload_n hx hb dX5_dye_0 rfl (lv_at hl 0 rfl) ?_
  refine lv_iload_n hx hb dX5_dye_1 rfl (lv_at hl 1 rfl) ?_
  refine z_Si_eq (As := [.int (nI iz)]) (rest := [.ref (ad n)]) C0 hP hS hl.1 (m_X5_isCord l _ ) lk_X5_82 rfl rfl (Nat.le_of_ble_eq_true rfl) ⟨Nat.le_of_ble_eq_true rfl, Nat.le_of_ble_eq_true rfl⟩ rfl rfl ⟨Nat.zero_le _, Nat.zero_le _⟩ dX5_dye_2 (fun H locs hP hS => ?_)
  refine z_topi (y := 1) (zc1 hi) ?_
  refine lv_if_ne (tgt := 12) hx hb dX5_dye_5 (by decide) (fun c_5 => ?_) (fun c_5 => absurd c_5 (by decide))
  refine lv_iload_n hx hb dX5_dye_12 rfl (lv_at hl 2 rfl) ?_
  refine lv_iconst (v := 0) hx hb dX5_dye_13 (by decide) ?_
  refine lv_iconst (v := 5) hx hb dX5_dye_14 (by decide) ?_
  refine z_Si_eq (As := [.int hu, .int 0, .int 5]) (rest := [.ref (ad n)]) C0 hP hS hl.1 (m_X5_in l _ ) lk_X5_39 rfl rfl (Nat.le_of_ble_eq_true rfl) ⟨Nat.le_of_ble_eq_true rfl, Nat.le_of_ble_eq_true rfl⟩ rfl rfl ⟨Nat.zero_le _, Nat.zero_le _⟩ dX5_dye_15 (fun H locs hP hS => ?_)
  refine z_topi (y := 1) (if_pos ⟨Int32.not_lt.mp hu1, zlt_le hu2 rfl⟩) ?_
  refine lv_if_ne (tgt := 25) hx hb dX5_dye_18 (by decide) (fun c_18 => ?_) (fun c_18 => absurd c_18 (by decide))
  refine lv_iconst (v := 0) hx hb dX5_dye_25 (by decide) ?_
  refine z_Vi_mo (As := [.int 0]) (rest := []) C0 hP hS hl.1 (m_X5_holds l _ hM) lk_X5_86 hM.n0 hM.o rfl rfl (Nat.le_of_ble_eq_true rfl) ⟨Nat.le_of_ble_eq_true rfl, Nat.le_of_ble_eq_true rfl⟩ rfl rfl ⟨Nat.zero_le _, Nat.zero_le _⟩ dX5_dye_26 (fun r_26 g_1 H locs hP hS hp => ?_)
  obtain ⟨hr_26, hM, hF1⟩ := hp
  subst hr_26
  have hFr := hFr.tr (hF1.mono (by intro x9 hx9; first | (dsimp only [zOne, zRg, zCl] at hx9 ⊢; omega) | (dsimp only at hx9 ⊢; omega) | omega))
  refine z_topi (y := 1) (if_pos rfl) ?_
  refine lv_if_eq (tgt := 45) hx hb dX5_dye_29 (by decide) (fun c_29 => absurd c_29 (by decide)) (fun c_29 => ?_)
  refine lv_aload_n hx hb dX5_dye_32 rfl (lv_at hl 0 rfl) ?_
  refine lv_iload_n hx hb dX5_dye_33 rfl (lv_at hl 1 rfl) ?_
  refine lv_iconst (v := (nI 0)) hx hb dX5_dye_34 (by decide) ?_
  refine z_Si_eq (As := [.int (nI iz), .int (nI 0)]) (rest := [.ref (ad n)]) C0 hP hS hl.1 (m_X5_at l _ ) lk_X5_43 rfl rfl (Nat.le_of_ble_eq_true rfl) ⟨Nat.le_of_ble_eq_true rfl, Nat.le_of_ble_eq_true rfl⟩ rfl rfl ⟨Nat.zero_le _, Nat.zero_le _⟩ dX5_dye_35 (fun H locs hP hS => ?_)
  refine lv_iload_n hx hb dX5_dye_38 rfl (lv_at hl 2 rfl) ?_
  refine z_Vi_mo (As := [.int (nI (6 + 31 * iz + 0)), .int hu]) (rest := []) C0 hP hS hl.1 (m_X5_puts l _ hM hmz (by omega)) lk_X5_101 hM.n0 hM.o rfl rfl (Nat.le_of_ble_eq_true rfl) ⟨Nat.le_of_ble_eq_true rfl, Nat.le_of_ble_eq_true rfl⟩ rfl rfl ⟨Nat.zero_le _, Nat.zero_le _⟩ dX5_dye_39 (fun r_39 g_2 H locs hP hS hp => ?_)
  obtain ⟨hr_39, hM, hF1⟩ := hp
  subst hr_39
  have hFr := hFr.tr (hF1.mono (by intro x9 hx9; first | (dsimp only [zOne, zRg, zCl] at hx9 ⊢; omega) | (dsimp only at hx9 ⊢; omega) | omega))
  refine lv_goto (tgt := 46) hx hb dX5_dye_42 (by decide) ?_
  exact z_iret C0 hP hS hr (⟨rfl, hM, hFr⟩) dX5_dye_46
set_option maxHeartbeats 4000000 in
set_option maxRecDepth 100000 in
theorem m_X5_set (l : Launch) {D : va_G} {cy : Nat → ClassId} {K : Nat} {ad : Nat → Nat} {g : Nat → va_E} (sz : Nat) {n : Nat} {sx az so ik sv tx kn lo : Nat → Int32} {th lz : Int32} {dg : Int64} {mz : Nat} {vz : Int32} (hM : isM cy K ad g n sx az so ik sv tx kn lo th ((nI mz)) lz dg) (hmz : mz ≤ 6) (hv1 : ¬ vz < 20) (hv2 : vz ≤ 99) : Met l yX5_set (zs yX5_set cX5_set 2 (some .int)) ({ frames := 2, cells := 0, slots := 0, locals := 44 } : Room) (va_Pc [.ref (ad n), .int vz] (zIn D cy K ad g sz)) (va_Qi (fun r g1 => r = sx 5 ∧ isM cy K ad g1 n (upd sx 5 vz) az so ik (svS sv mz sx) tx kn lo 0 (nI (svM mz + 1)) lz dg ∧ zFr (zRg n (n + 9)) g g1) (zOut D cy K ad sz) (zA K ad sz)) 0 0 (zA K ad sz) := by
  refine z_met (by decide) (Nat.le_of_ble_eq_true rfl) (fun p e s m below meth c ls hsz hl C0 hr hnm hP hS => ?_)
  subst hsz
  have hl : lv_has ls 2 [(0, .ref (ad n)), (1, .int vz)] := hl
  have hx := C0.1; have hb := C0.2.1; have hown := C0.2.2.2.1; have hts := C0.2.2.2.2.1
  have hFr : zFr (zRg n (n + 9)) g g := zFr.rf
  refine lv_aload_n hx hb dX5_set_0 rfl (lv_at hl 0 rfl) ?_
  refine lv_iload_n hx hb dX5_set_1 rfl (lv_at hl 1 rfl) ?_
  refine lv_bipush (v := 20) hx hb dX5_set_2 (by decide) ?_
  refine lv_bipush (v := 99) hx hb dX5_set_4 (by decide) ?_
  refine z_Si_eq (As := [.int vz, .int 20, .int 99]) (rest := [.ref (ad n)]) C0 hP hS hl.1 (m_X5_in l _ ) lk_X5_39 rfl rfl (Nat.le_of_ble_eq_true rfl) ⟨Nat.le_of_ble_eq_true rfl, Nat.le_of_ble_eq_true rfl⟩ rfl rfl ⟨Nat.zero_le _, Nat.zero_le _⟩ dX5_set_6 (fun H locs hP hS => ?_)
  refine z_topi (y := 1) (if_pos ⟨Int32.not_lt.mp hv1, hv2⟩) ?_
  refine lv_if_eq (tgt := 16) hx hb dX5_set_9 (by decide) (fun c_9 => absurd c_9 (by decide)) (fun c_9 => ?_)
  refine lv_iconst (v := 0) hx hb dX5_set_12 (by decide) ?_
  refine lv_goto (tgt := 17) hx hb dX5_set_13 (by decide) ?_
  refine z_Vi_mo (As := [.int 0]) (rest := []) C0 hP hS hl.1 (m_X5_holds l _ hM) lk_X5_86 hM.n0 hM.o rfl rfl (Nat.le_of_ble_eq_true rfl) ⟨Nat.le_of_ble_eq_true rfl, Nat.le_of_ble_eq_true rfl⟩ rfl rfl ⟨Nat.zero_le _, Nat.zero_le _⟩ dX5_set_17 (fun r_17 g_1 H locs hP hS hp => ?_)
  obtain ⟨hr_17, hM, hF1⟩ := hp
  subst hr_17
  have hFr := hFr.tr (hF1.mono (by intro x9 hx9; first | (dsimp only [zOne, zRg, zCl] at hx9 ⊢; omega) | (dsimp only at hx9 ⊢; omega) | omega))
  refine z_topi (y := 1) (if_pos rfl) ?_
  refine lv_if_eq (tgt := 32) hx hb dX5_set_20 (by decide) (fun c_20 => absurd c_20 (by decide)) (fun c_20 => ?_)
  refine lv_aload_n hx hb dX5_set_23 rfl (lv_at hl 0 rfl) ?_
  refine lv_iconst (v := (nI 5)) hx hb dX5_set_24 (by decide) ?_
  refine lv_iload_n hx hb dX5_set_25 rfl (lv_at hl 1 rfl) ?_
  refine z_Vi_mo (As := [.int (nI 5), .int vz]) (rest := []) C0 hP hS hl.1 (m_X5_puts l _ hM hmz (by omega)) lk_X5_101 hM.n0 hM.o rfl rfl (Nat.le_of_ble_eq_true rfl) ⟨Nat.le_of_ble_eq_true rfl, Nat.le_of_ble_eq_true rfl⟩ rfl rfl ⟨Nat.zero_le _, Nat.zero_le _⟩ dX5_set_26 (fun r_26 g_2 H locs hP hS hp => ?_)
  obtain ⟨hr_26, hM, hF1⟩ := hp
  subst hr_26
  have hFr := hFr.tr (hF1.mono (by intro x9 hx9; first | (dsimp only [zOne, zRg, zCl] at hx9 ⊢; omega) | (dsimp only at hx9 ⊢; omega) | omega))
  refine lv_goto (tgt := 33) hx hb dX5_set_29 (by decide) ?_
  exact z_iret C0 hP hS hr (⟨rfl, hM, hFr⟩) dX5_set_33
set_option maxHeartbeats 4000000 in
set_option maxRecDepth 100000 in
theorem m_X5_append (l : Launch) {D : va_G} {cy : Nat → ClassId} {K : Nat} {ad : Nat → Nat} {g : Nat → va_E} (sz : Nat) {n : Nat} {sx az so ik sv tx kn lo : Nat → Int32} {th sm : Int32} {dg : Int64} {lw : Nat} {vz : Int32} (hM : isM cy K ad g n sx az so ik sv tx kn lo th sm ((nI lw)) dg) (hv1 : ¬ vz < 33) (hv2 : vz ≤ 126) (hln : lw < 60) : Met l yX5_append (zs yX5_append cX5_append 2 (some .int)) ({ frames := 1, cells := 0, slots := 0, locals := 22 } : Room) (va_Pc [.ref (ad n), .int vz] (zIn D cy K ad g sz)) (va_Qi (fun r g1 => r = nI (lw + 1) ∧ isM cy K ad g1 n sx az so ik sv (upd tx lw vz) kn lo 0 sm (nI (lw + 1)) dg ∧ zFr (zRg n (n + 9)) g g1) (zOut D cy K ad sz) (zA K ad sz)) 0 0 (zA K ad sz) := by
  refine z_met (by decide) (Nat.le_of_ble_eq_true rfl) (fun p e s m below meth c ls hsz hl C0 hr hnm hP hS => ?_)
  subst hsz
  have hl : lv_has ls 2 [(0, .ref (ad n)), (1, .int vz)] := hl
  have hx := C0.1; have hb := C0.2.1; have hown := C0.2.2.2.1; have hts := C0.2.2.2.2.1
  have hFr : zFr (zRg n (n + 9)) g g := zFr.rf
  refine lv_aload_n hx hb dX5_append_0 rfl (lv_at hl 0 rfl) ?_
  refine lv_iload_n hx hb dX5_append_1 rfl (lv_at hl 1 rfl) ?_
  refine lv_bipush (v := 33) hx hb dX5_append_2 (by decide) ?_
  refine lv_bipush (v := 126) hx hb dX5_append_4 (by decide) ?_
  refine z_Si_eq (As := [.int vz, .int 33, .int 126]) (rest := [.ref (ad n)]) C0 hP hS hl.1 (m_X5_in l _ ) lk_X5_39 rfl rfl (Nat.le_of_ble_eq_true rfl) ⟨Nat.le_of_ble_eq_true rfl, Nat.le_of_ble_eq_true rfl⟩ rfl rfl ⟨Nat.zero_le _, Nat.zero_le _⟩ dX5_append_6 (fun H locs hP hS => ?_)
  refine z_topi (y := 1) (if_pos ⟨Int32.not_lt.mp hv1, hv2⟩) ?_
  refine lv_if_ne (tgt := 16) hx hb dX5_append_9 (by decide) (fun c_9 => ?_) (fun c_9 => absurd c_9 (by decide))
  refine lv_aload_n hx hb dX5_append_16 rfl (lv_at hl 0 rfl) ?_
  refine z_get C0 hP hM.n0 hM.o fd_X5_104 rfl dX5_append_17 ?_
  refine lv_bipush (v := 60) hx hb dX5_append_20 (by decide) ?_
  refine lv_icmp_ne (tgt := 29) hx hb dX5_append_22 (by decide) (fun c_22 => ?_) (fun c_22 => absurd ((nI_eq (b := 60) (by omega) (by decide)).mp c_22) (by omega))
  refine lv_iconst (v := 0) hx hb dX5_append_29 (by decide) ?_
  refine z_Vi_mo (As := [.int 0]) (rest := []) C0 hP hS hl.1 (m_X5_holds l _ hM) lk_X5_86 hM.n0 hM.o rfl rfl (Nat.le_of_ble_eq_true rfl) ⟨Nat.le_of_ble_eq_true rfl, Nat.le_of_ble_eq_true rfl⟩ rfl rfl ⟨Nat.zero_le _, Nat.zero_le _⟩ dX5_append_30 (fun r_30 g_1 H locs hP hS hp => ?_)
  obtain ⟨hr_30, hM, hF1⟩ := hp
  subst hr_30
  have hFr := hFr.tr (hF1.mono (by intro x9 hx9; first | (dsimp only [zOne, zRg, zCl] at hx9 ⊢; omega) | (dsimp only at hx9 ⊢; omega) | omega))
  refine z_topi (y := 1) (if_pos rfl) ?_
  refine lv_if_ne (tgt := 38) hx hb dX5_append_33 (by decide) (fun c_33 => ?_) (fun c_33 => absurd c_33 (by decide))
  refine lv_aload_n hx hb dX5_append_38 rfl (lv_at hl 0 rfl) ?_
  refine z_get C0 hP hM.n0 hM.o fd_X5_26 rfl dX5_append_39 ?_
  refine lv_aload_n hx hb dX5_append_42 rfl (lv_at hl 0 rfl) ?_
  refine z_get C0 hP hM.n0 hM.o fd_X5_104 rfl dX5_append_43 ?_
  refine lv_iload_n hx hb dX5_append_46 rfl (lv_at hl 1 rfl) ?_
  refine zp_M_tx C0 hP hS hM hFr (by first | rfl | (dsimp only [zOne, zRg, zCl]; omega) | (dsimp only; omega) | omega) (zIx_nI (by omega) (by decide)) dX5_append_47 (fun g_2 H locs hP hS hM hFr hF1 => ?_)
  refine lv_aload_n hx hb dX5_append_48 rfl (lv_at hl 0 rfl) ?_
  refine lv_dup hx hb dX5_append_49 rfl ?_
  refine z_get C0 hP hM.n0 hM.o fd_X5_104 rfl dX5_append_50 ?_
  refine lv_iconst (v := 1) hx hb dX5_append_53 (by decide) ?_
  refine lv_iadd hx hb dX5_append_54 ?_
  refine z_topi (y := nI (lw + 1)) (nI_1 _) ?_
  refine zp_M_ln C0 hP hS hM hFr (by first | rfl | (dsimp only [zOne, zRg, zCl]; omega) | (dsimp only; omega) | omega) fp_X5_104 dX5_append_55 (fun g_3 H locs hP hS hM hFr hF1 => ?_)
  refine lv_aload_n hx hb dX5_append_58 rfl (lv_at hl 0 rfl) ?_
  refine z_get C0 hP hM.n0 hM.o fd_X5_104 rfl dX5_append_59 ?_
  exact z_iret C0 hP hS hr (⟨rfl, hM, hFr⟩) dX5_append_62
set_option maxHeartbeats 4000000 in
set_option maxRecDepth 100000 in
theorem m_X5_clearBuffer (l : Launch) {D : va_G} {cy : Nat → ClassId} {K : Nat} {ad : Nat → Nat} {g : Nat → va_E} (sz : Nat) {n : Nat} {sx az so ik sv tx kn lo : Nat → Int32} {th sm lz : Int32} {dg : Int64}  (hM : isM cy K ad g n sx az so ik sv tx kn lo th sm lz dg) : Met l yX5_clearBuffer (zs yX5_clearBuffer cX5_clearBuffer 2 (some .int)) ({ frames := 0, cells := 0, slots := 0, locals := 0 } : Room) (va_Pc [.ref (ad n)] (zIn D cy K ad g sz)) (va_Qi (fun r g1 => r = lz ∧ isM cy K ad g1 n sx az so ik sv tx kn lo 0 sm 0 dg ∧ zFr (zRg n (n + 9)) g g1) (zOut D cy K ad sz) (zA K ad sz)) 0 0 (zA K ad sz) := by
  refine z_met (by decide) (Nat.le_of_ble_eq_true rfl) (fun p e s m below meth c ls hsz hl C0 hr hnm hP hS => ?_)
  subst hsz
  have hl : lv_has ls 2 [(0, .ref (ad n))] := hl
  have hx := C0.1; have hb := C0.2.1; have hown := C0.2.2.2.1; have hts := C0.2.2.2.2.1
  have hFr : zFr (zRg n (n + 9)) g g := zFr.rf
  refine lv_aload_n hx hb dX5_clearBuffer_0 rfl (lv_at hl 0 rfl) ?_
  refine lv_iconst (v := 0) hx hb dX5_clearBuffer_1 (by decide) ?_
  refine zp_M_th C0 hP hS hM hFr (by first | rfl | (dsimp only [zOne, zRg, zCl]; omega) | (dsimp only; omega) | omega) fp_X5_35 dX5_clearBuffer_2 (fun g_1 H locs hP hS hM hFr hF1 => ?_)
  refine lv_aload_n hx hb dX5_clearBuffer_5 rfl (lv_at hl 0 rfl) ?_
  refine z_get C0 hP hM.n0 hM.o fd_X5_104 rfl dX5_clearBuffer_6 ?_
  refine lv_istore_n (lv' := [(1, .int lz), (0, .ref (ad n))]) hx hb dX5_clearBuffer_9 rfl hl (by decide) rfl (fun ls hl => ?_)
  refine lv_aload_n hx hb dX5_clearBuffer_10 rfl (lv_at hl 1 rfl) ?_
  refine lv_iconst (v := 0) hx hb dX5_clearBuffer_11 (by decide) ?_
  refine zp_M_ln C0 hP hS hM hFr (by first | rfl | (dsimp only [zOne, zRg, zCl]; omega) | (dsimp only; omega) | omega) fp_X5_104 dX5_clearBuffer_12 (fun g_2 H locs hP hS hM hFr hF1 => ?_)
  refine lv_iload_n hx hb dX5_clearBuffer_15 rfl (lv_at hl 0 rfl) ?_
  exact z_iret C0 hP hS hr (⟨rfl, hM, hFr⟩) dX5_clearBuffer_16
set_option maxHeartbeats 4000000 in
set_option maxRecDepth 100000 in
theorem m_X5_charAt (l : Launch) {D : va_G} {cy : Nat → ClassId} {K : Nat} {ad : Nat → Nat} {g : Nat → va_E} (sz : Nat) {n : Nat} {sx az so ik sv tx kn lo : Nat → Int32} {th sm : Int32} {dg : Int64} {lw pz : Nat} (hM : isM cy K ad g n sx az so ik sv tx kn lo th sm ((nI lw)) dg) (hln : lw ≤ 60) (hp : pz < 2 ^ 31) : Met l yX5_charAt (zs yX5_charAt cX5_charAt 2 (some .int)) ({ frames := 0, cells := 0, slots := 0, locals := 0 } : Room) (va_Pc [.ref (ad n), .int (nI pz)] (zIn D cy K ad g sz)) (va_Qi (fun r g1 => g1 = g ∧ r = chF tx lw pz) (zOut D cy K ad sz) (zA K ad sz)) 0 0 (zA K ad sz) := by
  refine z_met (by decide) (Nat.le_of_ble_eq_true rfl) (fun p e s m below meth c ls hsz hl C0 hr hnm hP hS => ?_)
  subst hsz
  have hl : lv_has ls 2 [(0, .ref (ad n)), (1, .int (nI pz))] := hl
  have hx := C0.1; have hb := C0.2.1; have hown := C0.2.2.2.1; have hts := C0.2.2.2.2.1
  refine lv_iload_n hx hb dX5_charAt_0 rfl (lv_at hl 1 rfl) ?_
  refine lv_aload_n hx hb dX5_charAt_1 rfl (lv_at hl 0 rfl) ?_
  refine z_get C0 hP hM.n0 hM.o fd_X5_104 rfl dX5_charAt_2 ?_
  refine lv_icmp_ge (tgt := 17) hx hb dX5_charAt_5 (by decide) (fun c_5 => ?_) (fun c_5 => ?_)
  · have hk2 : ¬ pz < lw := by have := z_ge_t c_5 hp (by omega); omega
    refine lv_iconst (v := 0) hx hb dX5_charAt_17 (by decide) ?_
    exact z_iret C0 hP hS hr (⟨rfl, (if_neg hk2).symm⟩) dX5_charAt_18
  · have hk2 : pz < lw := z_ge_f c_5 hp (by omega)
    refine lv_aload_n hx hb dX5_charAt_8 rfl (lv_at hl 0 rfl) ?_
    refine z_get C0 hP hM.n0 hM.o fd_X5_26 rfl dX5_charAt_9 ?_
    refine lv_iload_n hx hb dX5_charAt_12 rfl (lv_at hl 1 rfl) ?_
    refine z_iald C0 hP hM.n6 hM.a_tx (zIx_nI (by omega) (by decide)) dX5_charAt_13 ?_
    refine lv_goto (tgt := 18) hx hb dX5_charAt_14 (by decide) ?_
    exact z_iret C0 hP hS hr (⟨rfl, (if_pos hk2).symm⟩) dX5_charAt_18
set_option maxHeartbeats 4000000 in
set_option maxRecDepth 100000 in
theorem m_X5_digitAt (l : Launch) {D : va_G} {cy : Nat → ClassId} {K : Nat} {ad : Nat → Nat} {g : Nat → va_E} (sz : Nat) {n : Nat} {sx az so ik sv tx kn lo : Nat → Int32} {th sm : Int32} {dg : Int64} {lw pz : Nat} (hM : isM cy K ad g n sx az so ik sv tx kn lo th sm ((nI lw)) dg) (hln : lw ≤ 60) (hp : pz < 2 ^ 31) : Met l yX5_digitAt (zs yX5_digitAt cX5_digitAt 2 (some .int)) ({ frames := 1, cells := 0, slots := 0, locals := 21 } : Room) (va_Pc [.ref (ad n), .int (nI pz)] (zIn D cy K ad g sz)) (va_Qi (fun r g1 => g1 = g ∧ r = chF tx lw pz - 48) (zOut D cy K ad sz) (zA K ad sz)) 0 0 (zA K ad sz) := by
  refine z_met (by decide) (Nat.le_of_ble_eq_true rfl) (fun p e s m below meth c ls hsz hl C0 hr hnm hP hS => ?_)
  subst hsz
  have hl : lv_has ls 2 [(0, .ref (ad n)), (1, .int (nI pz))] := hl
  have hx := C0.1; have hb := C0.2.1; have hown := C0.2.2.2.1; have hts := C0.2.2.2.2.1
  refine lv_aload_n hx hb dX5_digitAt_0 rfl (lv_at hl 0 rfl) ?_
  refine lv_iload_n hx hb dX5_digitAt_1 rfl (lv_at hl 1 rfl) ?_
  refine z_Vi_eq (As := [.int (nI pz)]) (rest := []) C0 hP hS hl.1 (m_X5_charAt l _ hM hln hp) lk_X5_107 hM.n0 hM.o rfl rfl (Nat.le_of_ble_eq_true rfl) ⟨Nat.le_of_ble_eq_true rfl, Nat.le_of_ble_eq_true rfl⟩ rfl rfl ⟨Nat.zero_le _, Nat.zero_le _⟩ dX5_digitAt_2 (fun H locs hP hS => ?_)
  refine lv_bipush (v := 48) hx hb dX5_digitAt_5 (by decide) ?_
  refine lv_isub hx hb dX5_digitAt_7 ?_
  exact z_iret C0 hP hS hr (⟨rfl, rfl⟩) dX5_digitAt_8
set_option maxHeartbeats 4000000 in
set_option maxRecDepth 100000 in
theorem m_X5_loopsOf (l : Launch) {D : va_G} {cy : Nat → ClassId} {K : Nat} {ad : Nat → Nat} {g : Nat → va_E} (sz : Nat) {n : Nat} {sx az so ik sv tx kn lo : Nat → Int32} {th sm lz : Int32} {dg : Int64} {iz : Nat} (hM : isM cy K ad g n sx az so ik sv tx kn lo th sm lz dg) (hi : iz < 7) : Met l yX5_loopsOf (zs yX5_loopsOf cX5_loopsOf 4 (some .int)) ({ frames := 2, cells := 0, slots := 0, locals := 43 } : Room) (va_Pc [.ref (ad n), .int (nI iz)] (zIn D cy K ad g sz)) (va_Qi (fun r g1 => g1 = g ∧ r = sumN (fL sx iz) 6) (zOut D cy K ad sz) (zA K ad sz)) 0 0 (zA K ad sz) := by
  refine z_met (by decide) (Nat.le_of_ble_eq_true rfl) (fun p e s m below meth c ls hsz hl C0 hr hnm hP hS => ?_)
  subst hsz
  have hl : lv_has ls 4 [(0, .ref (ad n)), (1, .int (nI iz))] := hl
  have hx := C0.1; have hb := C0.2.1; have hown := C0.2.2.2.1; have hts := C0.2.2.2.2.1
  refine lv_iconst (v := 0) hx hb dX5_loopsOf_0 (by decide) ?_
  refine lv_istore_n (lv' := [(2, .int 0), (0, .ref (ad n)), (1, .int (nI iz))]) hx hb dX5_loopsOf_1 rfl hl (by decide) rfl (fun ls hl => ?_)
  refine lv_iconst (v := 0) hx hb dX5_loopsOf_2 (by decide) ?_
  refine lv_istore_n (lv' := [(3, .int 0), (2, .int 0), (0, .ref (ad n)), (1, .int (nI iz))]) hx hb dX5_loopsOf_3 rfl hl (by decide) rfl (fun ls hl => ?_)
  have lp_4 : ∀ (N : Nat) (kz : Nat) (hk : kz ≤ 6), 6 - kz < N → ∀ (H : Heap) (locs : List Loc) (ls : Array Slot), zP D K ad g (zA K ad s.heap.size) H → va_S (zA K ad s.heap.size) s.heap H locs → lv_has ls 4 [(0, .ref (ad n)), (1, .int (nI iz)), (2, .int (sumN (fL sx iz) kz)), (3, .int (nI kz))] → W p l e ({ frames := 2, cells := 0, slots := 0, locals := 43 } : Room) s m [.ref (ad n), .int (nI iz)].toArray below meth c H locs 0 0 (MQ below (va_Qi (fun r g1 => g1 = g ∧ r = sumN (fL sx iz) 6) (zOut D cy K ad s.heap.size) (zA K ad s.heap.size)) [.ref (ad n), .int (nI iz)].toArray s 0 0 (zA K ad s.heap.size)) (F0 m 4 ls []) := by
    intro N
    induction N with
    | zero => intro kz hk hN; exact absurd hN (Nat.not_lt_zero _)
    | succ N ih_4 =>
      intro kz hk hN H locs ls hP hS  hl
      refine lv_iload_n hx hb dX5_loopsOf_4 rfl (lv_at hl 3 rfl) ?_
      refine lv_bipush (v := 6) hx hb dX5_loopsOf_5 (by decide) ?_
      refine lv_icmp_ge (tgt := 28) hx hb dX5_loopsOf_7 (by decide) (fun c_7 => ?_) (fun c_7 => ?_)
      · have hk2 : kz = 6 := by have := z_ge_t (b := 6) c_7 (by omega) (by omega); omega
        subst hk2
        refine lv_iload_n hx hb dX5_loopsOf_28 rfl (lv_at hl 2 rfl) ?_
        exact z_iret C0 hP hS hr (⟨rfl, rfl⟩) dX5_loopsOf_29
      · have hk2 : kz < 6 := z_ge_f (b := 6) c_7 (by omega) (by omega)
        refine lv_iload_n hx hb dX5_loopsOf_10 rfl (lv_at hl 2 rfl) ?_
        refine lv_aload_n hx hb dX5_loopsOf_11 rfl (lv_at hl 0 rfl) ?_
        refine lv_iload_n hx hb dX5_loopsOf_12 rfl (lv_at hl 1 rfl) ?_
        refine lv_bipush (v := 25) hx hb dX5_loopsOf_13 (by decide) ?_
        refine lv_iload_n hx hb dX5_loopsOf_15 rfl (lv_at hl 3 rfl) ?_
        refine lv_iadd hx hb dX5_loopsOf_16 ?_
        refine z_topi (y := nI (25 + kz)) (nI_add 25 kz) ?_
        refine z_Vi_eq (As := [.int (nI iz), .int (nI (25 + kz))]) (rest := [.int (sumN (fL sx iz) kz)]) C0 hP hS hl.1 (m_X5_of l _ hM hi (by omega)) lk_X5_50 hM.n0 hM.o rfl rfl (Nat.le_of_ble_eq_true rfl) ⟨Nat.le_of_ble_eq_true rfl, Nat.le_of_ble_eq_true rfl⟩ rfl rfl ⟨Nat.zero_le _, Nat.zero_le _⟩ dX5_loopsOf_17 (fun H locs hP hS => ?_)
        refine lv_iadd hx hb dX5_loopsOf_20 ?_
        refine lv_istore_n (lv' := [(2, .int ((sumN (fL sx iz) kz) + (fL sx iz kz))), (0, .ref (ad n)), (1, .int (nI iz)), (3, .int (nI kz))]) hx hb dX5_loopsOf_21 rfl hl (by decide) rfl (fun ls hl => ?_)
        refine lv_iinc (v := nI (kz + 1)) (lv' := [(3, .int (nI (kz + 1))), (2, .int ((sumN (fL sx iz) kz) + (fL sx iz kz))), (0, .ref (ad n)), (1, .int (nI iz))]) hx hb dX5_loopsOf_22 hl (k := 3) rfl (z_inc _) (by decide) rfl (fun ls hl => ?_)
        refine lv_goto (tgt := 4) hx hb dX5_loopsOf_25 (by decide) ?_
        exact ih_4 (kz + 1) hk2 (by omega) _ _ _ hP hS  (lv_sub hl [2, 3, 1, 0] rfl)
  exact lp_4 _ 0 (Nat.zero_le _) (Nat.lt_succ_self _) _ _ _ hP hS  (lv_sub hl [2, 3, 1, 0] rfl)
set_option maxHeartbeats 4000000 in
set_option maxRecDepth 100000 in
theorem m_X5_number (l : Launch) {D : va_G} {cy : Nat → ClassId} {K : Nat} {ad : Nat → Nat} {g : Nat → va_E} (sz : Nat) {n : Nat} {sx az so ik sv tx kn lo : Nat → Int32} {th sm lz : Int32} {dg : Int64} {iz wz : Nat} (hM : isM cy K ad g n sx az so ik sv tx kn lo th sm lz dg) (hi : iz < 7) (hw : wz < 8) (hpc : pcOK sx) : Met l yX5_number (zs yX5_number cX5_number 3 (some .int)) ({ frames := 5, cells := 0, slots := 0, locals := 109 } : Room) (va_Pc [.ref (ad n), .int (nI iz), .int (nI wz)] (zIn D cy K ad g sz)) (va_Qi (fun r g1 => g1 = g ∧ r = cordF sx iz wz) (zOut D cy K ad sz) (zA K ad sz)) 0 0 (zA K ad sz) := by
  refine z_met (by decide) (Nat.le_of_ble_eq_true rfl) (fun p e s m below meth c ls hsz hl C0 hr hnm hP hS => ?_)
  subst hsz
  have hl : lv_has ls 3 [(0, .ref (ad n)), (1, .int (nI iz)), (2, .int (nI wz))] := hl
  have hx := C0.1; have hb := C0.2.1; have hown := C0.2.2.2.1; have hts := C0.2.2.2.2.1
  refine lv_iload_n hx hb dX5_number_0 rfl (lv_at hl 2 rfl) ?_
  obtain rfl | rfl | rfl | rfl | rfl | rfl | rfl | rfl : wz = 0 ∨ wz = 1 ∨ wz = 2 ∨ wz = 3 ∨ wz = 4 ∨ wz = 5 ∨ wz = 6 ∨ wz = 7 := by omega
  · refine lv_tableIn (tgt := 44) hx hb dX5_number_1 (by decide) (by decide) rfl (by decide) ?_
    refine lv_aload_n hx hb dX5_number_44 rfl (lv_at hl 0 rfl) ?_
    refine lv_iload_n hx hb dX5_number_45 rfl (lv_at hl 1 rfl) ?_
    refine z_Vi_eq (As := [.int (nI iz)]) (rest := []) C0 hP hS hl.1 (m_X5_told l _ hM hi) lk_X5_60 hM.n0 hM.o rfl rfl (Nat.le_of_ble_eq_true rfl) ⟨Nat.le_of_ble_eq_true rfl, Nat.le_of_ble_eq_true rfl⟩ rfl rfl ⟨Nat.zero_le _, Nat.zero_le _⟩ dX5_number_46 (fun H locs hP hS => ?_)
    exact z_iret C0 hP hS hr (⟨rfl, rfl⟩) dX5_number_49
  · refine lv_tableIn (tgt := 50) hx hb dX5_number_1 (by decide) (by decide) rfl (by decide) ?_
    refine lv_aload_n hx hb dX5_number_50 rfl (lv_at hl 0 rfl) ?_
    refine lv_iload_n hx hb dX5_number_51 rfl (lv_at hl 1 rfl) ?_
    refine z_Vi_eq (As := [.int (nI iz)]) (rest := []) C0 hP hS hl.1 (m_X5_partsTold l _ hM hi hpc) lk_X5_56 hM.n0 hM.o rfl rfl (Nat.le_of_ble_eq_true rfl) ⟨Nat.le_of_ble_eq_true rfl, Nat.le_of_ble_eq_true rfl⟩ rfl rfl ⟨Nat.zero_le _, Nat.zero_le _⟩ dX5_number_52 (fun H locs hP hS => ?_)
    exact z_iret C0 hP hS hr (⟨rfl, rfl⟩) dX5_number_55
  · refine lv_tableIn (tgt := 56) hx hb dX5_number_1 (by decide) (by decide) rfl (by decide) ?_
    refine lv_aload_n hx hb dX5_number_56 rfl (lv_at hl 0 rfl) ?_
    refine lv_iload_n hx hb dX5_number_57 rfl (lv_at hl 1 rfl) ?_
    refine lv_iconst (v := (nI 1)) hx hb dX5_number_58 (by decide) ?_
    refine z_Vi_eq (As := [.int (nI iz), .int (nI 1)]) (rest := []) C0 hP hS hl.1 (m_X5_of l _ hM hi (by omega)) lk_X5_50 hM.n0 hM.o rfl rfl (Nat.le_of_ble_eq_true rfl) ⟨Nat.le_of_ble_eq_true rfl, Nat.le_of_ble_eq_true rfl⟩ rfl rfl ⟨Nat.zero_le _, Nat.zero_le _⟩ dX5_number_59 (fun H locs hP hS => ?_)
    exact z_iret C0 hP hS hr (⟨rfl, rfl⟩) dX5_number_62
  · refine lv_tableIn (tgt := 63) hx hb dX5_number_1 (by decide) (by decide) rfl (by decide) ?_
    refine lv_aload_n hx hb dX5_number_63 rfl (lv_at hl 0 rfl) ?_
    refine lv_iload_n hx hb dX5_number_64 rfl (lv_at hl 1 rfl) ?_
    refine z_Vi_eq (As := [.int (nI iz)]) (rest := []) C0 hP hS hl.1 (m_X5_lacks l _ hM hi hpc) lk_X5_79 hM.n0 hM.o rfl rfl (Nat.le_of_ble_eq_true rfl) ⟨Nat.le_of_ble_eq_true rfl, Nat.le_of_ble_eq_true rfl⟩ rfl rfl ⟨Nat.zero_le _, Nat.zero_le _⟩ dX5_number_65 (fun H locs hP hS => ?_)
    exact z_iret C0 hP hS hr (⟨rfl, rfl⟩) dX5_number_68
  · refine lv_tableIn (tgt := 69) hx hb dX5_number_1 (by decide) (by decide) rfl (by decide) ?_
    refine lv_aload_n hx hb dX5_number_69 rfl (lv_at hl 0 rfl) ?_
    refine lv_iload_n hx hb dX5_number_70 rfl (lv_at hl 1 rfl) ?_
    refine z_Vi_eq (As := [.int (nI iz)]) (rest := []) C0 hP hS hl.1 (m_X5_ties l _ hM hi) lk_X5_63 hM.n0 hM.o rfl rfl (Nat.le_of_ble_eq_true rfl) ⟨Nat.le_of_ble_eq_true rfl, Nat.le_of_ble_eq_true rfl⟩ rfl rfl ⟨Nat.zero_le _, Nat.zero_le _⟩ dX5_number_71 (fun H locs hP hS => ?_)
    exact z_iret C0 hP hS hr (⟨rfl, rfl⟩) dX5_number_74
  · refine lv_tableIn (tgt := 75) hx hb dX5_number_1 (by decide) (by decide) rfl (by decide) ?_
    refine lv_aload_n hx hb dX5_number_75 rfl (lv_at hl 0 rfl) ?_
    refine lv_iload_n hx hb dX5_number_76 rfl (lv_at hl 1 rfl) ?_
    refine z_Vi_eq (As := [.int (nI iz)]) (rest := []) C0 hP hS hl.1 (m_X5_loopsOf l _ hM hi) lk_X5_130 hM.n0 hM.o rfl rfl (Nat.le_of_ble_eq_true rfl) ⟨Nat.le_of_ble_eq_true rfl, Nat.le_of_ble_eq_true rfl⟩ rfl rfl ⟨Nat.zero_le _, Nat.zero_le _⟩ dX5_number_77 (fun H locs hP hS => ?_)
    exact z_iret C0 hP hS hr (⟨rfl, rfl⟩) dX5_number_80
  · refine lv_tableIn (tgt := 81) hx hb dX5_number_1 (by decide) (by decide) rfl (by decide) ?_
    refine lv_aload_n hx hb dX5_number_81 rfl (lv_at hl 0 rfl) ?_
    refine lv_iload_n hx hb dX5_number_82 rfl (lv_at hl 1 rfl) ?_
    refine lv_iconst (v := (nI 0)) hx hb dX5_number_83 (by decide) ?_
    refine z_Vi_eq (As := [.int (nI iz), .int (nI 0)]) (rest := []) C0 hP hS hl.1 (m_X5_of l _ hM hi (by omega)) lk_X5_50 hM.n0 hM.o rfl rfl (Nat.le_of_ble_eq_true rfl) ⟨Nat.le_of_ble_eq_true rfl, Nat.le_of_ble_eq_true rfl⟩ rfl rfl ⟨Nat.zero_le _, Nat.zero_le _⟩ dX5_number_84 (fun H locs hP hS => ?_)
    exact z_iret C0 hP hS hr (⟨rfl, rfl⟩) dX5_number_87
  · refine lv_tableOut (tgt := 88) hx hb dX5_number_1 (by decide) (by decide) ?_
    refine lv_aload_n hx hb dX5_number_88 rfl (lv_at hl 0 rfl) ?_
    refine lv_iload_n hx hb dX5_number_89 rfl (lv_at hl 1 rfl) ?_
    refine lv_iconst (v := (nI 2)) hx hb dX5_number_90 (by decide) ?_
    refine z_Vi_eq (As := [.int (nI iz), .int (nI 2)]) (rest := []) C0 hP hS hl.1 (m_X5_of l _ hM hi (by omega)) lk_X5_50 hM.n0 hM.o rfl rfl (Nat.le_of_ble_eq_true rfl) ⟨Nat.le_of_ble_eq_true rfl, Nat.le_of_ble_eq_true rfl⟩ rfl rfl ⟨Nat.zero_le _, Nat.zero_le _⟩ dX5_number_91 (fun H locs hP hS => ?_)
    exact z_iret C0 hP hS hr (⟨rfl, rfl⟩) dX5_number_94
set_option maxHeartbeats 4000000 in
set_option maxRecDepth 100000 in
theorem m_X5_cordOf (l : Launch) {D : va_G} {cy : Nat → ClassId} {K : Nat} {ad : Nat → Nat} {g : Nat → va_E} (sz : Nat) {n : Nat} {sx az so ik sv tx kn lo : Nat → Int32} {th sm lz : Int32} {dg : Int64} {iz wz : Nat} (hM : isM cy K ad g n sx az so ik sv tx kn lo th sm lz dg) (hi : iz < 7) (hw : wz < 8) (hpc : pcOK sx) : Met l yX5_cordOf (zs yX5_cordOf cX5_cordOf 3 (some .int)) ({ frames := 6, cells := 0, slots := 0, locals := 131 } : Room) (va_Pc [.ref (ad n), .int (nI iz), .int (nI wz)] (zIn D cy K ad g sz)) (va_Qi (fun r g1 => r = cordF sx iz wz ∧ isM cy K ad g1 n sx az so ik sv tx kn lo 0 sm lz dg ∧ zFr (zRg n (n + 9)) g g1) (zOut D cy K ad sz) (zA K ad sz)) 0 0 (zA K ad sz) := by
  refine z_met (by decide) (Nat.le_of_ble_eq_true rfl) (fun p e s m below meth c ls hsz hl C0 hr hnm hP hS => ?_)
  subst hsz
  have hl : lv_has ls 3 [(0, .ref (ad n)), (1, .int (nI iz)), (2, .int (nI wz))] := hl
  have hx := C0.1; have hb := C0.2.1; have hown := C0.2.2.2.1; have hts := C0.2.2.2.2.1
  have hFr : zFr (zRg n (n + 9)) g g := zFr.rf
  refine lv_aload_n hx hb dX5_cordOf_0 rfl (lv_at hl 0 rfl) ?_
  refine lv_iload_n hx hb dX5_cordOf_1 rfl (lv_at hl 1 rfl) ?_
  refine z_Si_eq (As := [.int (nI iz)]) (rest := [.ref (ad n)]) C0 hP hS hl.1 (m_X5_isCord l _ ) lk_X5_82 rfl rfl (Nat.le_of_ble_eq_true rfl) ⟨Nat.le_of_ble_eq_true rfl, Nat.le_of_ble_eq_true rfl⟩ rfl rfl ⟨Nat.zero_le _, Nat.zero_le _⟩ dX5_cordOf_2 (fun H locs hP hS => ?_)
  refine z_topi (y := 1) (zc1 hi) ?_
  refine lv_if_ne (tgt := 12) hx hb dX5_cordOf_5 (by decide) (fun c_5 => ?_) (fun c_5 => absurd c_5 (by decide))
  refine lv_iload_n hx hb dX5_cordOf_12 rfl (lv_at hl 2 rfl) ?_
  refine lv_iconst (v := 0) hx hb dX5_cordOf_13 (by decide) ?_
  refine lv_bipush (v := 7) hx hb dX5_cordOf_14 (by decide) ?_
  refine z_Si_eq (As := [.int (nI wz), .int 0, .int 7]) (rest := [.ref (ad n)]) C0 hP hS hl.1 (m_X5_in l _ ) lk_X5_39 rfl rfl (Nat.le_of_ble_eq_true rfl) ⟨Nat.le_of_ble_eq_true rfl, Nat.le_of_ble_eq_true rfl⟩ rfl rfl ⟨Nat.zero_le _, Nat.zero_le _⟩ dX5_cordOf_16 (fun H locs hP hS => ?_)
  refine z_topi (y := 1) (zc1' (m := 7) (by omega) (by decide)) ?_
  refine lv_if_ne (tgt := 26) hx hb dX5_cordOf_19 (by decide) (fun c_19 => ?_) (fun c_19 => absurd c_19 (by decide))
  refine lv_iconst (v := 0) hx hb dX5_cordOf_26 (by decide) ?_
  refine z_Vi_mo (As := [.int 0]) (rest := []) C0 hP hS hl.1 (m_X5_holds l _ hM) lk_X5_86 hM.n0 hM.o rfl rfl (Nat.le_of_ble_eq_true rfl) ⟨Nat.le_of_ble_eq_true rfl, Nat.le_of_ble_eq_true rfl⟩ rfl rfl ⟨Nat.zero_le _, Nat.zero_le _⟩ dX5_cordOf_27 (fun r_27 g_1 H locs hP hS hp => ?_)
  obtain ⟨hr_27, hM, hF1⟩ := hp
  subst hr_27
  have hFr := hFr.tr (hF1.mono (by intro x9 hx9; first | (dsimp only [zOne, zRg, zCl] at hx9 ⊢; omega) | (dsimp only at hx9 ⊢; omega) | omega))
  refine z_topi (y := 1) (if_pos rfl) ?_
  refine lv_if_eq (tgt := 42) hx hb dX5_cordOf_30 (by decide) (fun c_30 => absurd c_30 (by decide)) (fun c_30 => ?_)
  refine lv_aload_n hx hb dX5_cordOf_33 rfl (lv_at hl 0 rfl) ?_
  refine lv_iload_n hx hb dX5_cordOf_34 rfl (lv_at hl 1 rfl) ?_
  refine lv_iload_n hx hb dX5_cordOf_35 rfl (lv_at hl 2 rfl) ?_
  refine z_Vi_eq (As := [.int (nI iz), .int (nI wz)]) (rest := []) C0 hP hS hl.1 (m_X5_number l _ hM hi hw hpc) lk_X5_133 hM.n0 hM.o rfl rfl (Nat.le_of_ble_eq_true rfl) ⟨Nat.le_of_ble_eq_true rfl, Nat.le_of_ble_eq_true rfl⟩ rfl rfl ⟨Nat.zero_le _, Nat.zero_le _⟩ dX5_cordOf_36 (fun H locs hP hS => ?_)
  refine lv_goto (tgt := 43) hx hb dX5_cordOf_39 (by decide) ?_
  exact z_iret C0 hP hS hr (⟨rfl, hM, hFr⟩) dX5_cordOf_43
set_option maxHeartbeats 4000000 in
set_option maxRecDepth 100000 in
theorem m_X5_atPlace (l : Launch) {D : va_G} {cy : Nat → ClassId} {K : Nat} {ad : Nat → Nat} {g : Nat → va_E} (sz : Nat) {n : Nat} {sx az so ik sv tx kn lo : Nat → Int32} {th sm lz : Int32} {dg : Int64} {iz jz wz : Nat} (hM : isM cy K ad g n sx az so ik sv tx kn lo th sm lz dg) (hi : iz < 7) (hj : jz < 6) (hw : wz < 4) : Met l yX5_atPlace (zs yX5_atPlace cX5_atPlace 5 (some .int)) ({ frames := 3, cells := 0, slots := 0, locals := 65 } : Room) (va_Pc [.ref (ad n), .int (nI iz), .int (nI jz), .int (nI wz)] (zIn D cy K ad g sz)) (va_Qi (fun r g1 => g1 = g ∧ r = placeF sx iz jz wz) (zOut D cy K ad sz) (zA K ad sz)) 0 0 (zA K ad sz) := by
  refine z_met (by decide) (Nat.le_of_ble_eq_true rfl) (fun p e s m below meth c ls hsz hl C0 hr hnm hP hS => ?_)
  subst hsz
  have hl : lv_has ls 5 [(0, .ref (ad n)), (1, .int (nI iz)), (2, .int (nI jz)), (3, .int (nI wz))] := hl
  have hx := C0.1; have hb := C0.2.1; have hown := C0.2.2.2.1; have hts := C0.2.2.2.2.1
  refine lv_aload_n hx hb dX5_atPlace_0 rfl (lv_at hl 0 rfl) ?_
  refine z_get C0 hP hM.n0 hM.o fd_X5_7 rfl dX5_atPlace_1 ?_
  refine lv_iconst (v := 5) hx hb dX5_atPlace_4 (by decide) ?_
  refine z_iald C0 hP hM.n1 hM.a_s (zIx_nI (j := 5) (by decide) (by decide)) dX5_atPlace_5 ?_
  refine lv_aload_n hx hb dX5_atPlace_6 rfl (lv_at hl 0 rfl) ?_
  refine lv_iload_n hx hb dX5_atPlace_7 rfl (lv_at hl 1 rfl) ?_
  refine lv_bipush (v := 19) hx hb dX5_atPlace_8 (by decide) ?_
  refine lv_iload_n hx hb dX5_atPlace_10 rfl (lv_at hl 2 rfl) ?_
  refine lv_iadd hx hb dX5_atPlace_11 ?_
  refine z_topi (y := nI (19 + jz)) (nI_add 19 jz) ?_
  refine z_Vi_eq (As := [.int (nI iz), .int (nI (19 + jz))]) (rest := [.int (sx 5)]) C0 hP hS hl.1 (m_X5_of l _ hM hi (by omega)) lk_X5_50 hM.n0 hM.o rfl rfl (Nat.le_of_ble_eq_true rfl) ⟨Nat.le_of_ble_eq_true rfl, Nat.le_of_ble_eq_true rfl⟩ rfl rfl ⟨Nat.zero_le _, Nat.zero_le _⟩ dX5_atPlace_12 (fun H locs hP hS => ?_)
  refine lv_isub hx hb dX5_atPlace_15 ?_
  refine lv_aload_n hx hb dX5_atPlace_16 rfl (lv_at hl 0 rfl) ?_
  refine lv_iload_n hx hb dX5_atPlace_17 rfl (lv_at hl 1 rfl) ?_
  refine lv_bipush (v := 25) hx hb dX5_atPlace_18 (by decide) ?_
  refine lv_iload_n hx hb dX5_atPlace_20 rfl (lv_at hl 2 rfl) ?_
  refine lv_iadd hx hb dX5_atPlace_21 ?_
  refine z_topi (y := nI (25 + jz)) (nI_add 25 jz) ?_
  refine z_Vi_eq (As := [.int (nI iz), .int (nI (25 + jz))]) (rest := [.int ((sx 5) - (fK sx iz jz))]) C0 hP hS hl.1 (m_X5_of l _ hM hi (by omega)) lk_X5_50 hM.n0 hM.o rfl rfl (Nat.le_of_ble_eq_true rfl) ⟨Nat.le_of_ble_eq_true rfl, Nat.le_of_ble_eq_true rfl⟩ rfl rfl ⟨Nat.zero_le _, Nat.zero_le _⟩ dX5_atPlace_22 (fun H locs hP hS => ?_)
  refine lv_isub hx hb dX5_atPlace_25 ?_
  refine z_topi (y := sx 5 - (fK sx iz jz + fL sx iz jz)) (zsub3 _ _ _) ?_
  refine lv_istore (lv' := [(4, .int (sx 5 - (fK sx iz jz + fL sx iz jz))), (0, .ref (ad n)), (1, .int (nI iz)), (2, .int (nI jz)), (3, .int (nI wz))]) hx hb dX5_atPlace_26 hl (by decide) rfl (fun ls hl => ?_)
  refine lv_iload_n hx hb dX5_atPlace_28 rfl (lv_at hl 4 rfl) ?_
  refine lv_if_ne (tgt := 44) hx hb dX5_atPlace_29 (by decide) (fun c_29 => ?_) (fun c_29 => ?_)
  · have hw0 : wz ≠ 0 := fun q => c_29 (by rw [q]; rfl)
    refine lv_iload_n hx hb dX5_atPlace_44 rfl (lv_at hl 4 rfl) ?_
    refine lv_iconst (v := 1) hx hb dX5_atPlace_45 (by decide) ?_
    refine lv_icmp_ne (tgt := 61) hx hb dX5_atPlace_46 (by decide) (fun c_46 => ?_) (fun c_46 => ?_)
    · have hw1 : wz ≠ 1 := fun q => c_46 (by rw [q]; rfl)
      refine lv_iload_n hx hb dX5_atPlace_61 rfl (lv_at hl 4 rfl) ?_
      refine lv_iconst (v := 2) hx hb dX5_atPlace_62 (by decide) ?_
      refine lv_icmp_ne (tgt := 75) hx hb dX5_atPlace_63 (by decide) (fun c_63 => ?_) (fun c_63 => ?_)
      · have hw2 : wz ≠ 2 := fun q => c_63 (by rw [q]; rfl)
        have hw9 : wz = 3 := by omega
        subst hw9
        refine lv_iload hx hb dX5_atPlace_75 (lv_at hl 0 rfl) ?_
        refine lv_if_le (tgt := 85) hx hb dX5_atPlace_77 (by decide) (fun c_77 => ?_) (fun c_77 => ?_)
        · refine lv_iconst (v := 0) hx hb dX5_atPlace_85 (by decide) ?_
          exact z_iret C0 hP hS hr (⟨rfl, by first | rfl | exact (if_pos (Int32.not_le.mp c_77)).symm | exact (if_neg (Int32.not_lt.mpr c_77)).symm⟩) dX5_atPlace_86
        · refine lv_iload hx hb dX5_atPlace_80 (lv_at hl 0 rfl) ?_
          refine lv_goto (tgt := 86) hx hb dX5_atPlace_82 (by decide) ?_
          exact z_iret C0 hP hS hr (⟨rfl, by first | rfl | exact (if_pos (Int32.not_le.mp c_77)).symm | exact (if_neg (Int32.not_lt.mpr c_77)).symm⟩) dX5_atPlace_86
      · have hw9 : wz = 2 := (nI_eq (b := 2) (by omega) (by decide)).mp c_63
        subst hw9
        refine lv_aload_n hx hb dX5_atPlace_66 rfl (lv_at hl 1 rfl) ?_
        refine lv_iload_n hx hb dX5_atPlace_67 rfl (lv_at hl 2 rfl) ?_
        refine lv_iload_n hx hb dX5_atPlace_68 rfl (lv_at hl 3 rfl) ?_
        refine z_Vi_eq (As := [.int (nI iz), .int (nI jz)]) (rest := []) C0 hP hS hl.1 (m_X5_open l _ hM hi hj) lk_X5_53 hM.n0 hM.o rfl rfl (Nat.le_of_ble_eq_true rfl) ⟨Nat.le_of_ble_eq_true rfl, Nat.le_of_ble_eq_true rfl⟩ rfl rfl ⟨Nat.zero_le _, Nat.zero_le _⟩ dX5_atPlace_69 (fun H locs hP hS => ?_)
        refine lv_goto (tgt := 86) hx hb dX5_atPlace_72 (by decide) ?_
        exact z_iret C0 hP hS hr (⟨rfl, by first | rfl | exact (if_pos (Int32.not_le.mp c_77)).symm | exact (if_neg (Int32.not_lt.mpr c_77)).symm⟩) dX5_atPlace_86
    · have hw9 : wz = 1 := (nI_eq (b := 1) (by omega) (by decide)).mp c_46
      subst hw9
      refine lv_aload_n hx hb dX5_atPlace_49 rfl (lv_at hl 1 rfl) ?_
      refine lv_iload_n hx hb dX5_atPlace_50 rfl (lv_at hl 2 rfl) ?_
      refine lv_bipush (v := 25) hx hb dX5_atPlace_51 (by decide) ?_
      refine lv_iload_n hx hb dX5_atPlace_53 rfl (lv_at hl 3 rfl) ?_
      refine lv_iadd hx hb dX5_atPlace_54 ?_
      refine z_topi (y := nI (25 + jz)) (nI_add 25 jz) ?_
      refine z_Vi_eq (As := [.int (nI iz), .int (nI (25 + jz))]) (rest := []) C0 hP hS hl.1 (m_X5_of l _ hM hi (by omega)) lk_X5_50 hM.n0 hM.o rfl rfl (Nat.le_of_ble_eq_true rfl) ⟨Nat.le_of_ble_eq_true rfl, Nat.le_of_ble_eq_true rfl⟩ rfl rfl ⟨Nat.zero_le _, Nat.zero_le _⟩ dX5_atPlace_55 (fun H locs hP hS => ?_)
      refine lv_goto (tgt := 86) hx hb dX5_atPlace_58 (by decide) ?_
      exact z_iret C0 hP hS hr (⟨rfl, by first | rfl | exact (if_pos (Int32.not_le.mp c_77)).symm | exact (if_neg (Int32.not_lt.mpr c_77)).symm⟩) dX5_atPlace_86
  · have hw9 : wz = 0 := (nI_eq (b := 0) (by omega) (by decide)).mp c_29
    subst hw9
    refine lv_aload_n hx hb dX5_atPlace_32 rfl (lv_at hl 1 rfl) ?_
    refine lv_iload_n hx hb dX5_atPlace_33 rfl (lv_at hl 2 rfl) ?_
    refine lv_bipush (v := 19) hx hb dX5_atPlace_34 (by decide) ?_
    refine lv_iload_n hx hb dX5_atPlace_36 rfl (lv_at hl 3 rfl) ?_
    refine lv_iadd hx hb dX5_atPlace_37 ?_
    refine z_topi (y := nI (19 + jz)) (nI_add 19 jz) ?_
    refine z_Vi_eq (As := [.int (nI iz), .int (nI (19 + jz))]) (rest := []) C0 hP hS hl.1 (m_X5_of l _ hM hi (by omega)) lk_X5_50 hM.n0 hM.o rfl rfl (Nat.le_of_ble_eq_true rfl) ⟨Nat.le_of_ble_eq_true rfl, Nat.le_of_ble_eq_true rfl⟩ rfl rfl ⟨Nat.zero_le _, Nat.zero_le _⟩ dX5_atPlace_38 (fun H locs hP hS => ?_)
    refine lv_goto (tgt := 86) hx hb dX5_atPlace_41 (by decide) ?_
    exact z_iret C0 hP hS hr (⟨rfl, by first | rfl | exact (if_pos (Int32.not_le.mp c_77)).symm | exact (if_neg (Int32.not_lt.mpr c_77)).symm⟩) dX5_atPlace_86
set_option maxHeartbeats 4000000 in
set_option maxRecDepth 100000 in
theorem m_X5_placeOf (l : Launch) {D : va_G} {cy : Nat → ClassId} {K : Nat} {ad : Nat → Nat} {g : Nat → va_E} (sz : Nat) {n : Nat} {sx az so ik sv tx kn lo : Nat → Int32} {th sm lz : Int32} {dg : Int64} {iz jz wz : Nat} (hM : isM cy K ad g n sx az so ik sv tx kn lo th sm lz dg) (hi : iz < 7) (hj : jz < 6) (hw : wz < 4) : Met l yX5_placeOf (zs yX5_placeOf cX5_placeOf 4 (some .int)) ({ frames := 4, cells := 0, slots := 0, locals := 89 } : Room) (va_Pc [.ref (ad n), .int (nI iz), .int (nI jz), .int (nI wz)] (zIn D cy K ad g sz)) (va_Qi (fun r g1 => r = placeF sx iz jz wz ∧ isM cy K ad g1 n sx az so ik sv tx kn lo 0 sm lz dg ∧ zFr (zRg n (n + 9)) g g1) (zOut D cy K ad sz) (zA K ad sz)) 0 0 (zA K ad sz) := by
  refine z_met (by decide) (Nat.le_of_ble_eq_true rfl) (fun p e s m below meth c ls hsz hl C0 hr hnm hP hS => ?_)
  subst hsz
  have hl : lv_has ls 4 [(0, .ref (ad n)), (1, .int (nI iz)), (2, .int (nI jz)), (3, .int (nI wz))] := hl
  have hx := C0.1; have hb := C0.2.1; have hown := C0.2.2.2.1; have hts := C0.2.2.2.2.1
  have hFr : zFr (zRg n (n + 9)) g g := zFr.rf
  refine lv_aload_n hx hb dX5_placeOf_0 rfl (lv_at hl 0 rfl) ?_
  refine lv_iload_n hx hb dX5_placeOf_1 rfl (lv_at hl 1 rfl) ?_
  refine z_Si_eq (As := [.int (nI iz)]) (rest := [.ref (ad n)]) C0 hP hS hl.1 (m_X5_isCord l _ ) lk_X5_82 rfl rfl (Nat.le_of_ble_eq_true rfl) ⟨Nat.le_of_ble_eq_true rfl, Nat.le_of_ble_eq_true rfl⟩ rfl rfl ⟨Nat.zero_le _, Nat.zero_le _⟩ dX5_placeOf_2 (fun H locs hP hS => ?_)
  refine z_topi (y := 1) (zc1 hi) ?_
  refine lv_if_eq (tgt := 17) hx hb dX5_placeOf_5 (by decide) (fun c_5 => absurd c_5 (by decide)) (fun c_5 => ?_)
  refine lv_iload_n hx hb dX5_placeOf_8 rfl (lv_at hl 2 rfl) ?_
  refine lv_iconst (v := 0) hx hb dX5_placeOf_9 (by decide) ?_
  refine lv_iconst (v := 5) hx hb dX5_placeOf_10 (by decide) ?_
  refine z_Si_eq (As := [.int (nI jz), .int 0, .int 5]) (rest := [.ref (ad n)]) C0 hP hS hl.1 (m_X5_in l _ ) lk_X5_39 rfl rfl (Nat.le_of_ble_eq_true rfl) ⟨Nat.le_of_ble_eq_true rfl, Nat.le_of_ble_eq_true rfl⟩ rfl rfl ⟨Nat.zero_le _, Nat.zero_le _⟩ dX5_placeOf_11 (fun H locs hP hS => ?_)
  refine z_topi (y := 1) (zc1' (m := 5) (by omega) (by decide)) ?_
  refine lv_if_ne (tgt := 21) hx hb dX5_placeOf_14 (by decide) (fun c_14 => ?_) (fun c_14 => absurd c_14 (by decide))
  refine lv_iload_n hx hb dX5_placeOf_21 rfl (lv_at hl 3 rfl) ?_
  refine lv_iconst (v := 0) hx hb dX5_placeOf_22 (by decide) ?_
  refine lv_iconst (v := 3) hx hb dX5_placeOf_23 (by decide) ?_
  refine z_Si_eq (As := [.int (nI wz), .int 0, .int 3]) (rest := [.ref (ad n)]) C0 hP hS hl.1 (m_X5_in l _ ) lk_X5_39 rfl rfl (Nat.le_of_ble_eq_true rfl) ⟨Nat.le_of_ble_eq_true rfl, Nat.le_of_ble_eq_true rfl⟩ rfl rfl ⟨Nat.zero_le _, Nat.zero_le _⟩ dX5_placeOf_24 (fun H locs hP hS => ?_)
  refine z_topi (y := 1) (zc1' (m := 3) (by omega) (by decide)) ?_
  refine lv_if_ne (tgt := 34) hx hb dX5_placeOf_27 (by decide) (fun c_27 => ?_) (fun c_27 => absurd c_27 (by decide))
  refine lv_iconst (v := 0) hx hb dX5_placeOf_34 (by decide) ?_
  refine z_Vi_mo (As := [.int 0]) (rest := []) C0 hP hS hl.1 (m_X5_holds l _ hM) lk_X5_86 hM.n0 hM.o rfl rfl (Nat.le_of_ble_eq_true rfl) ⟨Nat.le_of_ble_eq_true rfl, Nat.le_of_ble_eq_true rfl⟩ rfl rfl ⟨Nat.zero_le _, Nat.zero_le _⟩ dX5_placeOf_35 (fun r_35 g_1 H locs hP hS hp => ?_)
  obtain ⟨hr_35, hM, hF1⟩ := hp
  subst hr_35
  have hFr := hFr.tr (hF1.mono (by intro x9 hx9; first | (dsimp only [zOne, zRg, zCl] at hx9 ⊢; omega) | (dsimp only at hx9 ⊢; omega) | omega))
  refine z_topi (y := 1) (if_pos rfl) ?_
  refine lv_if_eq (tgt := 51) hx hb dX5_placeOf_38 (by decide) (fun c_38 => absurd c_38 (by decide)) (fun c_38 => ?_)
  refine lv_aload_n hx hb dX5_placeOf_41 rfl (lv_at hl 0 rfl) ?_
  refine lv_iload_n hx hb dX5_placeOf_42 rfl (lv_at hl 1 rfl) ?_
  refine lv_iload_n hx hb dX5_placeOf_43 rfl (lv_at hl 2 rfl) ?_
  refine lv_iload_n hx hb dX5_placeOf_44 rfl (lv_at hl 3 rfl) ?_
  refine z_Vi_eq (As := [.int (nI iz), .int (nI jz), .int (nI wz)]) (rest := []) C0 hP hS hl.1 (m_X5_atPlace l _ hM hi hj hw) lk_X5_136 hM.n0 hM.o rfl rfl (Nat.le_of_ble_eq_true rfl) ⟨Nat.le_of_ble_eq_true rfl, Nat.le_of_ble_eq_true rfl⟩ rfl rfl ⟨Nat.zero_le _, Nat.zero_le _⟩ dX5_placeOf_45 (fun H locs hP hS => ?_)
  refine lv_goto (tgt := 52) hx hb dX5_placeOf_48 (by decide) ?_
  exact z_iret C0 hP hS hr (⟨rfl, hM, hFr⟩) dX5_placeOf_52
set_option maxHeartbeats 4000000 in
set_option maxRecDepth 100000 in
theorem m_X5_tieb1 (l : Launch) {D : va_G} {cy : Nat → ClassId} {K : Nat} {ad : Nat → Nat} {g : Nat → va_E} (sz : Nat) {n : Nat} {sx az so ik sv tx kn lo : Nat → Int32} {th sm lz : Int32} {dg : Int64} {xz num : Int32} (hM : isM cy K ad g n sx az so ik sv tx kn lo th sm lz dg) (hbd : xz < 0 ∨ 7 ≤ xz) : Met l yX5_tie (zs yX5_tie cX5_tie 3 (some .int)) ({ frames := 7, cells := 0, slots := 0, locals := 161 } : Room) (va_Pc [.ref (ad n), .int xz, .int num] (zIn D cy K ad g sz)) (va_Qi (fun r g1 => r = 0 ∧ isM cy K ad g1 n sx az so ik sv tx kn lo 1 sm lz dg ∧ zFr (zRg n (n + 9)) g g1) (zOut D cy K ad sz) (zA K ad sz)) 0 0 (zA K ad sz) := by
  refine z_met (by decide) (Nat.le_of_ble_eq_true rfl) (fun p e s m below meth c ls hsz hl C0 hr hnm hP hS => ?_)
  subst hsz
  have hl : lv_has ls 3 [(0, .ref (ad n)), (1, .int xz), (2, .int num)] := hl
  have hx := C0.1; have hb := C0.2.1; have hown := C0.2.2.2.1; have hts := C0.2.2.2.2.1
  have hFr : zFr (zRg n (n + 9)) g g := zFr.rf
  refine lv_aload_n hx hb dX5_tie_0 rfl (lv_at hl 0 rfl) ?_
  refine lv_iload_n hx hb dX5_tie_1 rfl (lv_at hl 1 rfl) ?_
  refine z_Si_eq (As := [.int xz]) (rest := [.ref (ad n)]) C0 hP hS hl.1 (m_X5_isCord l _ ) lk_X5_82 rfl rfl (Nat.le_of_ble_eq_true rfl) ⟨Nat.le_of_ble_eq_true rfl, Nat.le_of_ble_eq_true rfl⟩ rfl rfl ⟨Nat.zero_le _, Nat.zero_le _⟩ dX5_tie_2 (fun H locs hP hS => ?_)
  refine z_topi (y := 0) (zin0 hbd rfl) ?_
  refine lv_if_ne (tgt := 12) hx hb dX5_tie_5 (by decide) (fun c_5 => absurd c_5 (by decide)) (fun c_5 => ?_)
  refine lv_iconst (v := 1) hx hb dX5_tie_8 (by decide) ?_
  refine lv_goto (tgt := 27) hx hb dX5_tie_9 (by decide) ?_
  refine z_Vi_mo (As := [.int 1]) (rest := []) C0 hP hS hl.1 (m_X5_holds l _ hM) lk_X5_86 hM.n0 hM.o rfl rfl (Nat.le_of_ble_eq_true rfl) ⟨Nat.le_of_ble_eq_true rfl, Nat.le_of_ble_eq_true rfl⟩ rfl rfl ⟨Nat.zero_le _, Nat.zero_le _⟩ dX5_tie_27 (fun r_27 g_1 H locs hP hS hp => ?_)
  obtain ⟨hr_27, hM, hF1⟩ := hp
  subst hr_27
  have hFr := hFr.tr (hF1.mono (by intro x9 hx9; first | (dsimp only [zOne, zRg, zCl] at hx9 ⊢; omega) | (dsimp only at hx9 ⊢; omega) | omega))
  refine z_topi (y := 0) (if_neg (by decide)) ?_
  refine lv_if_ne (tgt := 35) hx hb dX5_tie_30 (by decide) (fun c_30 => absurd c_30 (by decide)) (fun c_30 => ?_)
  refine lv_iconst (v := 0) hx hb dX5_tie_33 (by decide) ?_
  exact z_iret C0 hP hS hr (⟨rfl, hM, hFr⟩) dX5_tie_34
set_option maxHeartbeats 4000000 in
set_option maxRecDepth 100000 in
theorem m_X5_tieb2 (l : Launch) {D : va_G} {cy : Nat → ClassId} {K : Nat} {ad : Nat → Nat} {g : Nat → va_E} (sz : Nat) {n : Nat} {sx az so ik sv tx kn lo : Nat → Int32} {th sm lz : Int32} {dg : Int64} {iz : Nat} {num : Int32} (hM : isM cy K ad g n sx az so ik sv tx kn lo th sm lz dg) (hi : iz < 7) (hbd : num < 1 ∨ 999999 < num) : Met l yX5_tie (zs yX5_tie cX5_tie 3 (some .int)) ({ frames := 7, cells := 0, slots := 0, locals := 161 } : Room) (va_Pc [.ref (ad n), .int (nI iz), .int num] (zIn D cy K ad g sz)) (va_Qi (fun r g1 => r = 0 ∧ isM cy K ad g1 n sx az so ik sv tx kn lo 2 sm lz dg ∧ zFr (zRg n (n + 9)) g g1) (zOut D cy K ad sz) (zA K ad sz)) 0 0 (zA K ad sz) := by
  refine z_met (by decide) (Nat.le_of_ble_eq_true rfl) (fun p e s m below meth c ls hsz hl C0 hr hnm hP hS => ?_)
  subst hsz
  have hl : lv_has ls 3 [(0, .ref (ad n)), (1, .int (nI iz)), (2, .int num)] := hl
  have hx := C0.1; have hb := C0.2.1; have hown := C0.2.2.2.1; have hts := C0.2.2.2.2.1
  have hFr : zFr (zRg n (n + 9)) g g := zFr.rf
  refine lv_aload_n hx hb dX5_tie_0 rfl (lv_at hl 0 rfl) ?_
  refine lv_iload_n hx hb dX5_tie_1 rfl (lv_at hl 1 rfl) ?_
  refine z_Si_eq (As := [.int (nI iz)]) (rest := [.ref (ad n)]) C0 hP hS hl.1 (m_X5_isCord l _ ) lk_X5_82 rfl rfl (Nat.le_of_ble_eq_true rfl) ⟨Nat.le_of_ble_eq_true rfl, Nat.le_of_ble_eq_true rfl⟩ rfl rfl ⟨Nat.zero_le _, Nat.zero_le _⟩ dX5_tie_2 (fun H locs hP hS => ?_)
  refine z_topi (y := 1) (zc1 hi) ?_
  refine lv_if_ne (tgt := 12) hx hb dX5_tie_5 (by decide) (fun c_5 => ?_) (fun c_5 => absurd c_5 (by decide))
  refine lv_iload_n hx hb dX5_tie_12 rfl (lv_at hl 2 rfl) ?_
  refine lv_iconst (v := 1) hx hb dX5_tie_13 (by decide) ?_
  refine lv_ldc hx hb hown (hts _ q824) dX5_tie_14 ?_
  refine z_Si_eq (As := [.int num, .int 1, .int 999999]) (rest := [.ref (ad n)]) C0 hP hS hl.1 (m_X5_in l _ ) lk_X5_39 rfl rfl (Nat.le_of_ble_eq_true rfl) ⟨Nat.le_of_ble_eq_true rfl, Nat.le_of_ble_eq_true rfl⟩ rfl rfl ⟨Nat.zero_le _, Nat.zero_le _⟩ dX5_tie_16 (fun H locs hP hS => ?_)
  refine z_topi (y := 0) (zin1 hbd) ?_
  refine lv_if_ne (tgt := 26) hx hb dX5_tie_19 (by decide) (fun c_19 => absurd c_19 (by decide)) (fun c_19 => ?_)
  refine lv_iconst (v := 2) hx hb dX5_tie_22 (by decide) ?_
  refine lv_goto (tgt := 27) hx hb dX5_tie_23 (by decide) ?_
  refine z_Vi_mo (As := [.int 2]) (rest := []) C0 hP hS hl.1 (m_X5_holds l _ hM) lk_X5_86 hM.n0 hM.o rfl rfl (Nat.le_of_ble_eq_true rfl) ⟨Nat.le_of_ble_eq_true rfl, Nat.le_of_ble_eq_true rfl⟩ rfl rfl ⟨Nat.zero_le _, Nat.zero_le _⟩ dX5_tie_27 (fun r_27 g_1 H locs hP hS hp => ?_)
  obtain ⟨hr_27, hM, hF1⟩ := hp
  subst hr_27
  have hFr := hFr.tr (hF1.mono (by intro x9 hx9; first | (dsimp only [zOne, zRg, zCl] at hx9 ⊢; omega) | (dsimp only at hx9 ⊢; omega) | omega))
  refine z_topi (y := 0) (if_neg (by decide)) ?_
  refine lv_if_ne (tgt := 35) hx hb dX5_tie_30 (by decide) (fun c_30 => absurd c_30 (by decide)) (fun c_30 => ?_)
  refine lv_iconst (v := 0) hx hb dX5_tie_33 (by decide) ?_
  exact z_iret C0 hP hS hr (⟨rfl, hM, hFr⟩) dX5_tie_34
set_option maxHeartbeats 4000000 in
set_option maxRecDepth 100000 in
theorem m_X5_addb1 (l : Launch) {D : va_G} {cy : Nat → ClassId} {K : Nat} {ad : Nat → Nat} {g : Nat → va_E} (sz : Nat) {n : Nat} {sx az so ik sv tx kn lo : Nat → Int32} {th sm lz : Int32} {dg : Int64} {xz yz : Int32} (hM : isM cy K ad g n sx az so ik sv tx kn lo th sm lz dg) (hbd : xz < 0 ∨ 7 ≤ xz) : Met l yX5_add (zs yX5_add cX5_add 3 (some .int)) ({ frames := 8, cells := 0, slots := 0, locals := 183 } : Room) (va_Pc [.ref (ad n), .int xz, .int yz] (zIn D cy K ad g sz)) (va_Qi (fun r g1 => r = 0 ∧ isM cy K ad g1 n sx az so ik sv tx kn lo 1 sm lz dg ∧ zFr (zRg n (n + 9)) g g1) (zOut D cy K ad sz) (zA K ad sz)) 0 0 (zA K ad sz) := by
  refine z_met (by decide) (Nat.le_of_ble_eq_true rfl) (fun p e s m below meth c ls hsz hl C0 hr hnm hP hS => ?_)
  subst hsz
  have hl : lv_has ls 3 [(0, .ref (ad n)), (1, .int xz), (2, .int yz)] := hl
  have hx := C0.1; have hb := C0.2.1; have hown := C0.2.2.2.1; have hts := C0.2.2.2.2.1
  have hFr : zFr (zRg n (n + 9)) g g := zFr.rf
  refine lv_aload_n hx hb dX5_add_0 rfl (lv_at hl 0 rfl) ?_
  refine lv_iload_n hx hb dX5_add_1 rfl (lv_at hl 1 rfl) ?_
  refine z_Si_eq (As := [.int xz]) (rest := [.ref (ad n)]) C0 hP hS hl.1 (m_X5_isCord l _ ) lk_X5_82 rfl rfl (Nat.le_of_ble_eq_true rfl) ⟨Nat.le_of_ble_eq_true rfl, Nat.le_of_ble_eq_true rfl⟩ rfl rfl ⟨Nat.zero_le _, Nat.zero_le _⟩ dX5_add_2 (fun H locs hP hS => ?_)
  refine z_topi (y := 0) (zin0 hbd rfl) ?_
  refine lv_if_eq (tgt := 15) hx hb dX5_add_5 (by decide) (fun c_5 => ?_) (fun c_5 => absurd c_5 (by decide))
  refine lv_iconst (v := 1) hx hb dX5_add_15 (by decide) ?_
  refine lv_goto (tgt := 29) hx hb dX5_add_16 (by decide) ?_
  refine z_Vi_mo (As := [.int 1]) (rest := []) C0 hP hS hl.1 (m_X5_holds l _ hM) lk_X5_86 hM.n0 hM.o rfl rfl (Nat.le_of_ble_eq_true rfl) ⟨Nat.le_of_ble_eq_true rfl, Nat.le_of_ble_eq_true rfl⟩ rfl rfl ⟨Nat.zero_le _, Nat.zero_le _⟩ dX5_add_29 (fun r_29 g_1 H locs hP hS hp => ?_)
  obtain ⟨hr_29, hM, hF1⟩ := hp
  subst hr_29
  have hFr := hFr.tr (hF1.mono (by intro x9 hx9; first | (dsimp only [zOne, zRg, zCl] at hx9 ⊢; omega) | (dsimp only at hx9 ⊢; omega) | omega))
  refine z_topi (y := 0) (if_neg (by decide)) ?_
  refine lv_if_ne (tgt := 37) hx hb dX5_add_32 (by decide) (fun c_32 => absurd c_32 (by decide)) (fun c_32 => ?_)
  refine lv_iconst (v := 0) hx hb dX5_add_35 (by decide) ?_
  exact z_iret C0 hP hS hr (⟨rfl, hM, hFr⟩) dX5_add_36
set_option maxHeartbeats 4000000 in
set_option maxRecDepth 100000 in
theorem m_X5_addb2 (l : Launch) {D : va_G} {cy : Nat → ClassId} {K : Nat} {ad : Nat → Nat} {g : Nat → va_E} (sz : Nat) {n : Nat} {sx az so ik sv tx kn lo : Nat → Int32} {th sm lz : Int32} {dg : Int64} {iz : Nat} {xz : Int32} (hM : isM cy K ad g n sx az so ik sv tx kn lo th sm lz dg) (hi : iz < 7) (hbd : xz < 0 ∨ 7 ≤ xz) : Met l yX5_add (zs yX5_add cX5_add 3 (some .int)) ({ frames := 8, cells := 0, slots := 0, locals := 183 } : Room) (va_Pc [.ref (ad n), .int (nI iz), .int xz] (zIn D cy K ad g sz)) (va_Qi (fun r g1 => r = 0 ∧ isM cy K ad g1 n sx az so ik sv tx kn lo 1 sm lz dg ∧ zFr (zRg n (n + 9)) g g1) (zOut D cy K ad sz) (zA K ad sz)) 0 0 (zA K ad sz) := by
  refine z_met (by decide) (Nat.le_of_ble_eq_true rfl) (fun p e s m below meth c ls hsz hl C0 hr hnm hP hS => ?_)
  subst hsz
  have hl : lv_has ls 3 [(0, .ref (ad n)), (1, .int (nI iz)), (2, .int xz)] := hl
  have hx := C0.1; have hb := C0.2.1; have hown := C0.2.2.2.1; have hts := C0.2.2.2.2.1
  have hFr : zFr (zRg n (n + 9)) g g := zFr.rf
  refine lv_aload_n hx hb dX5_add_0 rfl (lv_at hl 0 rfl) ?_
  refine lv_iload_n hx hb dX5_add_1 rfl (lv_at hl 1 rfl) ?_
  refine z_Si_eq (As := [.int (nI iz)]) (rest := [.ref (ad n)]) C0 hP hS hl.1 (m_X5_isCord l _ ) lk_X5_82 rfl rfl (Nat.le_of_ble_eq_true rfl) ⟨Nat.le_of_ble_eq_true rfl, Nat.le_of_ble_eq_true rfl⟩ rfl rfl ⟨Nat.zero_le _, Nat.zero_le _⟩ dX5_add_2 (fun H locs hP hS => ?_)
  refine z_topi (y := 1) (zc1 hi) ?_
  refine lv_if_eq (tgt := 15) hx hb dX5_add_5 (by decide) (fun c_5 => absurd c_5 (by decide)) (fun c_5 => ?_)
  refine lv_iload_n hx hb dX5_add_8 rfl (lv_at hl 2 rfl) ?_
  refine z_Si_eq (As := [.int xz]) (rest := [.ref (ad n)]) C0 hP hS hl.1 (m_X5_isCord l _ ) lk_X5_82 rfl rfl (Nat.le_of_ble_eq_true rfl) ⟨Nat.le_of_ble_eq_true rfl, Nat.le_of_ble_eq_true rfl⟩ rfl rfl ⟨Nat.zero_le _, Nat.zero_le _⟩ dX5_add_9 (fun H locs hP hS => ?_)
  refine z_topi (y := 0) (zin0 hbd rfl) ?_
  refine lv_if_ne (tgt := 19) hx hb dX5_add_12 (by decide) (fun c_12 => absurd c_12 (by decide)) (fun c_12 => ?_)
  refine lv_iconst (v := 1) hx hb dX5_add_15 (by decide) ?_
  refine lv_goto (tgt := 29) hx hb dX5_add_16 (by decide) ?_
  refine z_Vi_mo (As := [.int 1]) (rest := []) C0 hP hS hl.1 (m_X5_holds l _ hM) lk_X5_86 hM.n0 hM.o rfl rfl (Nat.le_of_ble_eq_true rfl) ⟨Nat.le_of_ble_eq_true rfl, Nat.le_of_ble_eq_true rfl⟩ rfl rfl ⟨Nat.zero_le _, Nat.zero_le _⟩ dX5_add_29 (fun r_29 g_1 H locs hP hS hp => ?_)
  obtain ⟨hr_29, hM, hF1⟩ := hp
  subst hr_29
  have hFr := hFr.tr (hF1.mono (by intro x9 hx9; first | (dsimp only [zOne, zRg, zCl] at hx9 ⊢; omega) | (dsimp only at hx9 ⊢; omega) | omega))
  refine z_topi (y := 0) (if_neg (by decide)) ?_
  refine lv_if_ne (tgt := 37) hx hb dX5_add_32 (by decide) (fun c_32 => absurd c_32 (by decide)) (fun c_32 => ?_)
  refine lv_iconst (v := 0) hx hb dX5_add_35 (by decide) ?_
  exact z_iret C0 hP hS hr (⟨rfl, hM, hFr⟩) dX5_add_36
set_option maxHeartbeats 4000000 in
set_option maxRecDepth 100000 in
theorem m_X5_addb3 (l : Launch) {D : va_G} {cy : Nat → ClassId} {K : Nat} {ad : Nat → Nat} {g : Nat → va_E} (sz : Nat) {n : Nat} {sx az so ik sv tx kn lo : Nat → Int32} {th sm lz : Int32} {dg : Int64} {iz : Nat} (hM : isM cy K ad g n sx az so ik sv tx kn lo th sm lz dg) (hi : iz < 7) : Met l yX5_add (zs yX5_add cX5_add 3 (some .int)) ({ frames := 8, cells := 0, slots := 0, locals := 183 } : Room) (va_Pc [.ref (ad n), .int (nI iz), .int (nI iz)] (zIn D cy K ad g sz)) (va_Qi (fun r g1 => r = 0 ∧ isM cy K ad g1 n sx az so ik sv tx kn lo 2 sm lz dg ∧ zFr (zRg n (n + 9)) g g1) (zOut D cy K ad sz) (zA K ad sz)) 0 0 (zA K ad sz) := by
  refine z_met (by decide) (Nat.le_of_ble_eq_true rfl) (fun p e s m below meth c ls hsz hl C0 hr hnm hP hS => ?_)
  subst hsz
  have hl : lv_has ls 3 [(0, .ref (ad n)), (1, .int (nI iz)), (2, .int (nI iz))] := hl
  have hx := C0.1; have hb := C0.2.1; have hown := C0.2.2.2.1; have hts := C0.2.2.2.2.1
  have hFr : zFr (zRg n (n + 9)) g g := zFr.rf
  refine lv_aload_n hx hb dX5_add_0 rfl (lv_at hl 0 rfl) ?_
  refine lv_iload_n hx hb dX5_add_1 rfl (lv_at hl 1 rfl) ?_
  refine z_Si_eq (As := [.int (nI iz)]) (rest := [.ref (ad n)]) C0 hP hS hl.1 (m_X5_isCord l _ ) lk_X5_82 rfl rfl (Nat.le_of_ble_eq_true rfl) ⟨Nat.le_of_ble_eq_true rfl, Nat.le_of_ble_eq_true rfl⟩ rfl rfl ⟨Nat.zero_le _, Nat.zero_le _⟩ dX5_add_2 (fun H locs hP hS => ?_)
  refine z_topi (y := 1) (zc1 hi) ?_
  refine lv_if_eq (tgt := 15) hx hb dX5_add_5 (by decide) (fun c_5 => absurd c_5 (by decide)) (fun c_5 => ?_)
  refine lv_iload_n hx hb dX5_add_8 rfl (lv_at hl 2 rfl) ?_
  refine z_Si_eq (As := [.int (nI iz)]) (rest := [.ref (ad n)]) C0 hP hS hl.1 (m_X5_isCord l _ ) lk_X5_82 rfl rfl (Nat.le_of_ble_eq_true rfl) ⟨Nat.le_of_ble_eq_true rfl, Nat.le_of_ble_eq_true rfl⟩ rfl rfl ⟨Nat.zero_le _, Nat.zero_le _⟩ dX5_add_9 (fun H locs hP hS => ?_)
  refine z_topi (y := 1) (zc1 hi) ?_
  refine lv_if_ne (tgt := 19) hx hb dX5_add_12 (by decide) (fun c_12 => ?_) (fun c_12 => absurd c_12 (by decide))
  refine lv_iload_n hx hb dX5_add_19 rfl (lv_at hl 1 rfl) ?_
  refine lv_iload_n hx hb dX5_add_20 rfl (lv_at hl 2 rfl) ?_
  refine lv_icmp_ne (tgt := 28) hx hb dX5_add_21 (by decide) (fun c_21 => absurd rfl c_21) (fun c_21 => ?_)
  refine lv_iconst (v := 2) hx hb dX5_add_24 (by decide) ?_
  refine lv_goto (tgt := 29) hx hb dX5_add_25 (by decide) ?_
  refine z_Vi_mo (As := [.int 2]) (rest := []) C0 hP hS hl.1 (m_X5_holds l _ hM) lk_X5_86 hM.n0 hM.o rfl rfl (Nat.le_of_ble_eq_true rfl) ⟨Nat.le_of_ble_eq_true rfl, Nat.le_of_ble_eq_true rfl⟩ rfl rfl ⟨Nat.zero_le _, Nat.zero_le _⟩ dX5_add_29 (fun r_29 g_1 H locs hP hS hp => ?_)
  obtain ⟨hr_29, hM, hF1⟩ := hp
  subst hr_29
  have hFr := hFr.tr (hF1.mono (by intro x9 hx9; first | (dsimp only [zOne, zRg, zCl] at hx9 ⊢; omega) | (dsimp only at hx9 ⊢; omega) | omega))
  refine z_topi (y := 0) (if_neg (by decide)) ?_
  refine lv_if_ne (tgt := 37) hx hb dX5_add_32 (by decide) (fun c_32 => absurd c_32 (by decide)) (fun c_32 => ?_)
  refine lv_iconst (v := 0) hx hb dX5_add_35 (by decide) ?_
  exact z_iret C0 hP hS hr (⟨rfl, hM, hFr⟩) dX5_add_36
set_option maxHeartbeats 4000000 in
set_option maxRecDepth 100000 in
theorem m_X5_slipb1 (l : Launch) {D : va_G} {cy : Nat → ClassId} {K : Nat} {ad : Nat → Nat} {g : Nat → va_E} (sz : Nat) {n : Nat} {sx az so ik sv tx kn lo : Nat → Int32} {th sm lz : Int32} {dg : Int64} {xz yz : Int32} (hM : isM cy K ad g n sx az so ik sv tx kn lo th sm lz dg) (hbd : xz < 0 ∨ 7 ≤ xz) : Met l yX5_slip (zs yX5_slip cX5_slip 3 (some .int)) ({ frames := 4, cells := 0, slots := 0, locals := 87 } : Room) (va_Pc [.ref (ad n), .int xz, .int yz] (zIn D cy K ad g sz)) (va_Qi (fun r g1 => r = 0 ∧ isM cy K ad g1 n sx az so ik sv tx kn lo 1 sm lz dg ∧ zFr (zRg n (n + 9)) g g1) (zOut D cy K ad sz) (zA K ad sz)) 0 0 (zA K ad sz) := by
  refine z_met (by decide) (Nat.le_of_ble_eq_true rfl) (fun p e s m below meth c ls hsz hl C0 hr hnm hP hS => ?_)
  subst hsz
  have hl : lv_has ls 3 [(0, .ref (ad n)), (1, .int xz), (2, .int yz)] := hl
  have hx := C0.1; have hb := C0.2.1; have hown := C0.2.2.2.1; have hts := C0.2.2.2.2.1
  have hFr : zFr (zRg n (n + 9)) g g := zFr.rf
  refine lv_aload_n hx hb dX5_slip_0 rfl (lv_at hl 0 rfl) ?_
  refine lv_iload_n hx hb dX5_slip_1 rfl (lv_at hl 1 rfl) ?_
  refine z_Si_eq (As := [.int xz]) (rest := [.ref (ad n)]) C0 hP hS hl.1 (m_X5_isCord l _ ) lk_X5_82 rfl rfl (Nat.le_of_ble_eq_true rfl) ⟨Nat.le_of_ble_eq_true rfl, Nat.le_of_ble_eq_true rfl⟩ rfl rfl ⟨Nat.zero_le _, Nat.zero_le _⟩ dX5_slip_2 (fun H locs hP hS => ?_)
  refine z_topi (y := 0) (zin0 hbd rfl) ?_
  refine lv_if_eq (tgt := 21) hx hb dX5_slip_5 (by decide) (fun c_5 => ?_) (fun c_5 => absurd c_5 (by decide))
  refine lv_iconst (v := 1) hx hb dX5_slip_21 (by decide) ?_
  refine z_Vi_mo (As := [.int 1]) (rest := []) C0 hP hS hl.1 (m_X5_holds l _ hM) lk_X5_86 hM.n0 hM.o rfl rfl (Nat.le_of_ble_eq_true rfl) ⟨Nat.le_of_ble_eq_true rfl, Nat.le_of_ble_eq_true rfl⟩ rfl rfl ⟨Nat.zero_le _, Nat.zero_le _⟩ dX5_slip_22 (fun r_22 g_1 H locs hP hS hp => ?_)
  obtain ⟨hr_22, hM, hF1⟩ := hp
  subst hr_22
  have hFr := hFr.tr (hF1.mono (by intro x9 hx9; first | (dsimp only [zOne, zRg, zCl] at hx9 ⊢; omega) | (dsimp only at hx9 ⊢; omega) | omega))
  refine z_topi (y := 0) (if_neg (by decide)) ?_
  refine lv_if_ne (tgt := 30) hx hb dX5_slip_25 (by decide) (fun c_25 => absurd c_25 (by decide)) (fun c_25 => ?_)
  refine lv_iconst (v := 0) hx hb dX5_slip_28 (by decide) ?_
  exact z_iret C0 hP hS hr (⟨rfl, hM, hFr⟩) dX5_slip_29
set_option maxHeartbeats 4000000 in
set_option maxRecDepth 100000 in
theorem m_X5_slipb2 (l : Launch) {D : va_G} {cy : Nat → ClassId} {K : Nat} {ad : Nat → Nat} {g : Nat → va_E} (sz : Nat) {n : Nat} {sx az so ik sv tx kn lo : Nat → Int32} {th sm lz : Int32} {dg : Int64} {iz : Nat} {xz : Int32} (hM : isM cy K ad g n sx az so ik sv tx kn lo th sm lz dg) (hi : iz < 7) (hbd : xz < 0 ∨ 6 ≤ xz) : Met l yX5_slip (zs yX5_slip cX5_slip 3 (some .int)) ({ frames := 4, cells := 0, slots := 0, locals := 87 } : Room) (va_Pc [.ref (ad n), .int (nI iz), .int xz] (zIn D cy K ad g sz)) (va_Qi (fun r g1 => r = 0 ∧ isM cy K ad g1 n sx az so ik sv tx kn lo 1 sm lz dg ∧ zFr (zRg n (n + 9)) g g1) (zOut D cy K ad sz) (zA K ad sz)) 0 0 (zA K ad sz) := by
  refine z_met (by decide) (Nat.le_of_ble_eq_true rfl) (fun p e s m below meth c ls hsz hl C0 hr hnm hP hS => ?_)
  subst hsz
  have hl : lv_has ls 3 [(0, .ref (ad n)), (1, .int (nI iz)), (2, .int xz)] := hl
  have hx := C0.1; have hb := C0.2.1; have hown := C0.2.2.2.1; have hts := C0.2.2.2.2.1
  have hFr : zFr (zRg n (n + 9)) g g := zFr.rf
  refine lv_aload_n hx hb dX5_slip_0 rfl (lv_at hl 0 rfl) ?_
  refine lv_iload_n hx hb dX5_slip_1 rfl (lv_at hl 1 rfl) ?_
  refine z_Si_eq (As := [.int (nI iz)]) (rest := [.ref (ad n)]) C0 hP hS hl.1 (m_X5_isCord l _ ) lk_X5_82 rfl rfl (Nat.le_of_ble_eq_true rfl) ⟨Nat.le_of_ble_eq_true rfl, Nat.le_of_ble_eq_true rfl⟩ rfl rfl ⟨Nat.zero_le _, Nat.zero_le _⟩ dX5_slip_2 (fun H locs hP hS => ?_)
  refine z_topi (y := 1) (zc1 hi) ?_
  refine lv_if_eq (tgt := 21) hx hb dX5_slip_5 (by decide) (fun c_5 => absurd c_5 (by decide)) (fun c_5 => ?_)
  refine lv_iload_n hx hb dX5_slip_8 rfl (lv_at hl 2 rfl) ?_
  refine lv_iconst (v := 0) hx hb dX5_slip_9 (by decide) ?_
  refine lv_iconst (v := 5) hx hb dX5_slip_10 (by decide) ?_
  refine z_Si_eq (As := [.int xz, .int 0, .int 5]) (rest := [.ref (ad n)]) C0 hP hS hl.1 (m_X5_in l _ ) lk_X5_39 rfl rfl (Nat.le_of_ble_eq_true rfl) ⟨Nat.le_of_ble_eq_true rfl, Nat.le_of_ble_eq_true rfl⟩ rfl rfl ⟨Nat.zero_le _, Nat.zero_le _⟩ dX5_slip_11 (fun H locs hP hS => ?_)
  refine z_topi (y := 0) (zin0 hbd rfl) ?_
  refine lv_if_eq (tgt := 21) hx hb dX5_slip_14 (by decide) (fun c_14 => ?_) (fun c_14 => absurd c_14 (by decide))
  refine lv_iconst (v := 1) hx hb dX5_slip_21 (by decide) ?_
  refine z_Vi_mo (As := [.int 1]) (rest := []) C0 hP hS hl.1 (m_X5_holds l _ hM) lk_X5_86 hM.n0 hM.o rfl rfl (Nat.le_of_ble_eq_true rfl) ⟨Nat.le_of_ble_eq_true rfl, Nat.le_of_ble_eq_true rfl⟩ rfl rfl ⟨Nat.zero_le _, Nat.zero_le _⟩ dX5_slip_22 (fun r_22 g_1 H locs hP hS hp => ?_)
  obtain ⟨hr_22, hM, hF1⟩ := hp
  subst hr_22
  have hFr := hFr.tr (hF1.mono (by intro x9 hx9; first | (dsimp only [zOne, zRg, zCl] at hx9 ⊢; omega) | (dsimp only at hx9 ⊢; omega) | omega))
  refine z_topi (y := 0) (if_neg (by decide)) ?_
  refine lv_if_ne (tgt := 30) hx hb dX5_slip_25 (by decide) (fun c_25 => absurd c_25 (by decide)) (fun c_25 => ?_)
  refine lv_iconst (v := 0) hx hb dX5_slip_28 (by decide) ?_
  exact z_iret C0 hP hS hr (⟨rfl, hM, hFr⟩) dX5_slip_29
set_option maxHeartbeats 4000000 in
set_option maxRecDepth 100000 in
theorem m_X5_mendb1 (l : Launch) {D : va_G} {cy : Nat → ClassId} {K : Nat} {ad : Nat → Nat} {g : Nat → va_E} (sz : Nat) {n : Nat} {sx az so ik sv tx kn lo : Nat → Int32} {th sm lz : Int32} {dg : Int64} {xz : Int32} (hM : isM cy K ad g n sx az so ik sv tx kn lo th sm lz dg) (hbd : xz < 0 ∨ 7 ≤ xz) : Met l yX5_mend (zs yX5_mend cX5_mend 2 (some .int)) ({ frames := 6, cells := 0, slots := 0, locals := 140 } : Room) (va_Pc [.ref (ad n), .int xz] (zIn D cy K ad g sz)) (va_Qi (fun r g1 => r = 0 ∧ isM cy K ad g1 n sx az so ik sv tx kn lo 1 sm lz dg ∧ zFr (zRg n (n + 9)) g g1) (zOut D cy K ad sz) (zA K ad sz)) 0 0 (zA K ad sz) := by
  refine z_met (by decide) (Nat.le_of_ble_eq_true rfl) (fun p e s m below meth c ls hsz hl C0 hr hnm hP hS => ?_)
  subst hsz
  have hl : lv_has ls 2 [(0, .ref (ad n)), (1, .int xz)] := hl
  have hx := C0.1; have hb := C0.2.1; have hown := C0.2.2.2.1; have hts := C0.2.2.2.2.1
  have hFr : zFr (zRg n (n + 9)) g g := zFr.rf
  refine lv_aload_n hx hb dX5_mend_0 rfl (lv_at hl 0 rfl) ?_
  refine lv_iload_n hx hb dX5_mend_1 rfl (lv_at hl 1 rfl) ?_
  refine z_Si_eq (As := [.int xz]) (rest := [.ref (ad n)]) C0 hP hS hl.1 (m_X5_isCord l _ ) lk_X5_82 rfl rfl (Nat.le_of_ble_eq_true rfl) ⟨Nat.le_of_ble_eq_true rfl, Nat.le_of_ble_eq_true rfl⟩ rfl rfl ⟨Nat.zero_le _, Nat.zero_le _⟩ dX5_mend_2 (fun H locs hP hS => ?_)
  refine z_topi (y := 0) (zin0 hbd rfl) ?_
  refine lv_if_eq (tgt := 12) hx hb dX5_mend_5 (by decide) (fun c_5 => ?_) (fun c_5 => absurd c_5 (by decide))
  refine lv_iconst (v := 1) hx hb dX5_mend_12 (by decide) ?_
  refine z_Vi_mo (As := [.int 1]) (rest := []) C0 hP hS hl.1 (m_X5_holds l _ hM) lk_X5_86 hM.n0 hM.o rfl rfl (Nat.le_of_ble_eq_true rfl) ⟨Nat.le_of_ble_eq_true rfl, Nat.le_of_ble_eq_true rfl⟩ rfl rfl ⟨Nat.zero_le _, Nat.zero_le _⟩ dX5_mend_13 (fun r_13 g_1 H locs hP hS hp => ?_)
  obtain ⟨hr_13, hM, hF1⟩ := hp
  subst hr_13
  have hFr := hFr.tr (hF1.mono (by intro x9 hx9; first | (dsimp only [zOne, zRg, zCl] at hx9 ⊢; omega) | (dsimp only at hx9 ⊢; omega) | omega))
  refine z_topi (y := 0) (if_neg (by decide)) ?_
  refine lv_if_ne (tgt := 21) hx hb dX5_mend_16 (by decide) (fun c_16 => absurd c_16 (by decide)) (fun c_16 => ?_)
  refine lv_iconst (v := 0) hx hb dX5_mend_19 (by decide) ?_
  exact z_iret C0 hP hS hr (⟨rfl, hM, hFr⟩) dX5_mend_20
set_option maxHeartbeats 4000000 in
set_option maxRecDepth 100000 in
theorem m_X5_renewb1 (l : Launch) {D : va_G} {cy : Nat → ClassId} {K : Nat} {ad : Nat → Nat} {g : Nat → va_E} (sz : Nat) {n : Nat} {sx az so ik sv tx kn lo : Nat → Int32} {th sm lz : Int32} {dg : Int64} {xz : Int32} (hM : isM cy K ad g n sx az so ik sv tx kn lo th sm lz dg) (hbd : xz < 0 ∨ 7 ≤ xz) : Met l yX5_renew (zs yX5_renew cX5_renew 4 (some .int)) ({ frames := 4, cells := 0, slots := 0, locals := 88 } : Room) (va_Pc [.ref (ad n), .int xz] (zIn D cy K ad g sz)) (va_Qi (fun r g1 => r = 0 ∧ isM cy K ad g1 n sx az so ik sv tx kn lo 1 sm lz dg ∧ zFr (zRg n (n + 9)) g g1) (zOut D cy K ad sz) (zA K ad sz)) 0 0 (zA K ad sz) := by
  refine z_met (by decide) (Nat.le_of_ble_eq_true rfl) (fun p e s m below meth c ls hsz hl C0 hr hnm hP hS => ?_)
  subst hsz
  have hl : lv_has ls 4 [(0, .ref (ad n)), (1, .int xz)] := hl
  have hx := C0.1; have hb := C0.2.1; have hown := C0.2.2.2.1; have hts := C0.2.2.2.2.1
  have hFr : zFr (zRg n (n + 9)) g g := zFr.rf
  refine lv_aload_n hx hb dX5_renew_0 rfl (lv_at hl 0 rfl) ?_
  refine lv_iload_n hx hb dX5_renew_1 rfl (lv_at hl 1 rfl) ?_
  refine z_Si_eq (As := [.int xz]) (rest := [.ref (ad n)]) C0 hP hS hl.1 (m_X5_isCord l _ ) lk_X5_82 rfl rfl (Nat.le_of_ble_eq_true rfl) ⟨Nat.le_of_ble_eq_true rfl, Nat.le_of_ble_eq_true rfl⟩ rfl rfl ⟨Nat.zero_le _, Nat.zero_le _⟩ dX5_renew_2 (fun H locs hP hS => ?_)
  refine z_topi (y := 0) (zin0 hbd rfl) ?_
  refine lv_if_eq (tgt := 12) hx hb dX5_renew_5 (by decide) (fun c_5 => ?_) (fun c_5 => absurd c_5 (by decide))
  refine lv_iconst (v := 1) hx hb dX5_renew_12 (by decide) ?_
  refine z_Vi_mo (As := [.int 1]) (rest := []) C0 hP hS hl.1 (m_X5_holds l _ hM) lk_X5_86 hM.n0 hM.o rfl rfl (Nat.le_of_ble_eq_true rfl) ⟨Nat.le_of_ble_eq_true rfl, Nat.le_of_ble_eq_true rfl⟩ rfl rfl ⟨Nat.zero_le _, Nat.zero_le _⟩ dX5_renew_13 (fun r_13 g_1 H locs hP hS hp => ?_)
  obtain ⟨hr_13, hM, hF1⟩ := hp
  subst hr_13
  have hFr := hFr.tr (hF1.mono (by intro x9 hx9; first | (dsimp only [zOne, zRg, zCl] at hx9 ⊢; omega) | (dsimp only at hx9 ⊢; omega) | omega))
  refine z_topi (y := 0) (if_neg (by decide)) ?_
  refine lv_if_ne (tgt := 21) hx hb dX5_renew_16 (by decide) (fun c_16 => absurd c_16 (by decide)) (fun c_16 => ?_)
  refine lv_iconst (v := 0) hx hb dX5_renew_19 (by decide) ?_
  exact z_iret C0 hP hS hr (⟨rfl, hM, hFr⟩) dX5_renew_20
set_option maxHeartbeats 4000000 in
set_option maxRecDepth 100000 in
theorem m_X5_dyeb1 (l : Launch) {D : va_G} {cy : Nat → ClassId} {K : Nat} {ad : Nat → Nat} {g : Nat → va_E} (sz : Nat) {n : Nat} {sx az so ik sv tx kn lo : Nat → Int32} {th sm lz : Int32} {dg : Int64} {xz yz : Int32} (hM : isM cy K ad g n sx az so ik sv tx kn lo th sm lz dg) (hbd : xz < 0 ∨ 7 ≤ xz) : Met l yX5_dye (zs yX5_dye cX5_dye 3 (some .int)) ({ frames := 2, cells := 0, slots := 0, locals := 44 } : Room) (va_Pc [.ref (ad n), .int xz, .int yz] (zIn D cy K ad g sz)) (va_Qi (fun r g1 => r = 0 ∧ isM cy K ad g1 n sx az so ik sv tx kn lo 1 sm lz dg ∧ zFr (zRg n (n + 9)) g g1) (zOut D cy K ad sz) (zA K ad sz)) 0 0 (zA K ad sz) := by
  refine z_met (by decide) (Nat.le_of_ble_eq_true rfl) (fun p e s m below meth c ls hsz hl C0 hr hnm hP hS => ?_)
  subst hsz
  have hl : lv_has ls 3 [(0, .ref (ad n)), (1, .int xz), (2, .int yz)] := hl
  have hx := C0.1; have hb := C0.2.1; have hown := C0.2.2.2.1; have hts := C0.2.2.2.2.1
  have hFr : zFr (zRg n (n + 9)) g g := zFr.rf
  refine lv_aload_n hx hb dX5_dye_0 rfl (lv_at hl 0 rfl) ?_
  refine lv_iload_n hx hb dX5_dye_1 rfl (lv_at hl 1 rfl) ?_
  refine z_Si_eq (As := [.int xz]) (rest := [.ref (ad n)]) C0 hP hS hl.1 (m_X5_isCord l _ ) lk_X5_82 rfl rfl (Nat.le_of_ble_eq_true rfl) ⟨Nat.le_of_ble_eq_true rfl, Nat.le_of_ble_eq_true rfl⟩ rfl rfl ⟨Nat.zero_le _, Nat.zero_le _⟩ dX5_dye_2 (fun H locs hP hS => ?_)
  refine z_topi (y := 0) (zin0 hbd rfl) ?_
  refine lv_if_ne (tgt := 12) hx hb dX5_dye_5 (by decide) (fun c_5 => absurd c_5 (by decide)) (fun c_5 => ?_)
  refine lv_iconst (v := 1) hx hb dX5_dye_8 (by decide) ?_
  refine lv_goto (tgt := 26) hx hb dX5_dye_9 (by decide) ?_
  refine z_Vi_mo (As := [.int 1]) (rest := []) C0 hP hS hl.1 (m_X5_holds l _ hM) lk_X5_86 hM.n0 hM.o rfl rfl (Nat.le_of_ble_eq_true rfl) ⟨Nat.le_of_ble_eq_true rfl, Nat.le_of_ble_eq_true rfl⟩ rfl rfl ⟨Nat.zero_le _, Nat.zero_le _⟩ dX5_dye_26 (fun r_26 g_1 H locs hP hS hp => ?_)
  obtain ⟨hr_26, hM, hF1⟩ := hp
  subst hr_26
  have hFr := hFr.tr (hF1.mono (by intro x9 hx9; first | (dsimp only [zOne, zRg, zCl] at hx9 ⊢; omega) | (dsimp only at hx9 ⊢; omega) | omega))
  refine z_topi (y := 0) (if_neg (by decide)) ?_
  refine lv_if_eq (tgt := 45) hx hb dX5_dye_29 (by decide) (fun c_29 => ?_) (fun c_29 => absurd c_29 (by decide))
  refine lv_iconst (v := 0) hx hb dX5_dye_45 (by decide) ?_
  exact z_iret C0 hP hS hr (⟨rfl, hM, hFr⟩) dX5_dye_46
set_option maxHeartbeats 4000000 in
set_option maxRecDepth 100000 in
theorem m_X5_dyeb2 (l : Launch) {D : va_G} {cy : Nat → ClassId} {K : Nat} {ad : Nat → Nat} {g : Nat → va_E} (sz : Nat) {n : Nat} {sx az so ik sv tx kn lo : Nat → Int32} {th sm lz : Int32} {dg : Int64} {iz : Nat} {xz : Int32} (hM : isM cy K ad g n sx az so ik sv tx kn lo th sm lz dg) (hi : iz < 7) (hbd : xz < 0 ∨ 6 ≤ xz) : Met l yX5_dye (zs yX5_dye cX5_dye 3 (some .int)) ({ frames := 2, cells := 0, slots := 0, locals := 44 } : Room) (va_Pc [.ref (ad n), .int (nI iz), .int xz] (zIn D cy K ad g sz)) (va_Qi (fun r g1 => r = 0 ∧ isM cy K ad g1 n sx az so ik sv tx kn lo 2 sm lz dg ∧ zFr (zRg n (n + 9)) g g1) (zOut D cy K ad sz) (zA K ad sz)) 0 0 (zA K ad sz) := by
  refine z_met (by decide) (Nat.le_of_ble_eq_true rfl) (fun p e s m below meth c ls hsz hl C0 hr hnm hP hS => ?_)
  subst hsz
  have hl : lv_has ls 3 [(0, .ref (ad n)), (1, .int (nI iz)), (2, .int xz)] := hl
  have hx := C0.1; have hb := C0.2.1; have hown := C0.2.2.2.1; have hts := C0.2.2.2.2.1
  have hFr : zFr (zRg n (n + 9)) g g := zFr.rf
  refine lv_aload_n hx hb dX5_dye_0 rfl (lv_at hl 0 rfl) ?_
  refine lv_iload_n hx hb dX5_dye_1 rfl (lv_at hl 1 rfl) ?_
  refine z_Si_eq (As := [.int (nI iz)]) (rest := [.ref (ad n)]) C0 hP hS hl.1 (m_X5_isCord l _ ) lk_X5_82 rfl rfl (Nat.le_of_ble_eq_true rfl) ⟨Nat.le_of_ble_eq_true rfl, Nat.le_of_ble_eq_true rfl⟩ rfl rfl ⟨Nat.zero_le _, Nat.zero_le _⟩ dX5_dye_2 (fun H locs hP hS => ?_)
  refine z_topi (y := 1) (zc1 hi) ?_
  refine lv_if_ne (tgt := 12) hx hb dX5_dye_5 (by decide) (fun c_5 => ?_) (fun c_5 => absurd c_5 (by decide))
  refine lv_iload_n hx hb dX5_dye_12 rfl (lv_at hl 2 rfl) ?_
  refine lv_iconst (v := 0) hx hb dX5_dye_13 (by decide) ?_
  refine lv_iconst (v := 5) hx hb dX5_dye_14 (by decide) ?_
  refine z_Si_eq (As := [.int xz, .int 0, .int 5]) (rest := [.ref (ad n)]) C0 hP hS hl.1 (m_X5_in l _ ) lk_X5_39 rfl rfl (Nat.le_of_ble_eq_true rfl) ⟨Nat.le_of_ble_eq_true rfl, Nat.le_of_ble_eq_true rfl⟩ rfl rfl ⟨Nat.zero_le _, Nat.zero_le _⟩ dX5_dye_15 (fun H locs hP hS => ?_)
  refine z_topi (y := 0) (zin0 hbd rfl) ?_
  refine lv_if_ne (tgt := 25) hx hb dX5_dye_18 (by decide) (fun c_18 => absurd c_18 (by decide)) (fun c_18 => ?_)
  refine lv_iconst (v := 2) hx hb dX5_dye_21 (by decide) ?_
  refine lv_goto (tgt := 26) hx hb dX5_dye_22 (by decide) ?_
  refine z_Vi_mo (As := [.int 2]) (rest := []) C0 hP hS hl.1 (m_X5_holds l _ hM) lk_X5_86 hM.n0 hM.o rfl rfl (Nat.le_of_ble_eq_true rfl) ⟨Nat.le_of_ble_eq_true rfl, Nat.le_of_ble_eq_true rfl⟩ rfl rfl ⟨Nat.zero_le _, Nat.zero_le _⟩ dX5_dye_26 (fun r_26 g_1 H locs hP hS hp => ?_)
  obtain ⟨hr_26, hM, hF1⟩ := hp
  subst hr_26
  have hFr := hFr.tr (hF1.mono (by intro x9 hx9; first | (dsimp only [zOne, zRg, zCl] at hx9 ⊢; omega) | (dsimp only at hx9 ⊢; omega) | omega))
  refine z_topi (y := 0) (if_neg (by decide)) ?_
  refine lv_if_eq (tgt := 45) hx hb dX5_dye_29 (by decide) (fun c_29 => ?_) (fun c_29 => absurd c_29 (by decide))
  refine lv_iconst (v := 0) hx hb dX5_dye_45 (by decide) ?_
  exact z_iret C0 hP hS hr (⟨rfl, hM, hFr⟩) dX5_dye_46
set_option maxHeartbeats 4000000 in
set_option maxRecDepth 100000 in
theorem m_X5_setb1 (l : Launch) {D : va_G} {cy : Nat → ClassId} {K : Nat} {ad : Nat → Nat} {g : Nat → va_E} (sz : Nat) {n : Nat} {sx az so ik sv tx kn lo : Nat → Int32} {th sm lz : Int32} {dg : Int64} {xz : Int32} (hM : isM cy K ad g n sx az so ik sv tx kn lo th sm lz dg) (hbd : xz < 20 ∨ 99 < xz) : Met l yX5_set (zs yX5_set cX5_set 2 (some .int)) ({ frames := 2, cells := 0, slots := 0, locals := 44 } : Room) (va_Pc [.ref (ad n), .int xz] (zIn D cy K ad g sz)) (va_Qi (fun r g1 => r = 0 ∧ isM cy K ad g1 n sx az so ik sv tx kn lo 1 sm lz dg ∧ zFr (zRg n (n + 9)) g g1) (zOut D cy K ad sz) (zA K ad sz)) 0 0 (zA K ad sz) := by
  refine z_met (by decide) (Nat.le_of_ble_eq_true rfl) (fun p e s m below meth c ls hsz hl C0 hr hnm hP hS => ?_)
  subst hsz
  have hl : lv_has ls 2 [(0, .ref (ad n)), (1, .int xz)] := hl
  have hx := C0.1; have hb := C0.2.1; have hown := C0.2.2.2.1; have hts := C0.2.2.2.2.1
  have hFr : zFr (zRg n (n + 9)) g g := zFr.rf
  refine lv_aload_n hx hb dX5_set_0 rfl (lv_at hl 0 rfl) ?_
  refine lv_iload_n hx hb dX5_set_1 rfl (lv_at hl 1 rfl) ?_
  refine lv_bipush (v := 20) hx hb dX5_set_2 (by decide) ?_
  refine lv_bipush (v := 99) hx hb dX5_set_4 (by decide) ?_
  refine z_Si_eq (As := [.int xz, .int 20, .int 99]) (rest := [.ref (ad n)]) C0 hP hS hl.1 (m_X5_in l _ ) lk_X5_39 rfl rfl (Nat.le_of_ble_eq_true rfl) ⟨Nat.le_of_ble_eq_true rfl, Nat.le_of_ble_eq_true rfl⟩ rfl rfl ⟨Nat.zero_le _, Nat.zero_le _⟩ dX5_set_6 (fun H locs hP hS => ?_)
  refine z_topi (y := 0) (zin1 hbd) ?_
  refine lv_if_eq (tgt := 16) hx hb dX5_set_9 (by decide) (fun c_9 => ?_) (fun c_9 => absurd c_9 (by decide))
  refine lv_iconst (v := 1) hx hb dX5_set_16 (by decide) ?_
  refine z_Vi_mo (As := [.int 1]) (rest := []) C0 hP hS hl.1 (m_X5_holds l _ hM) lk_X5_86 hM.n0 hM.o rfl rfl (Nat.le_of_ble_eq_true rfl) ⟨Nat.le_of_ble_eq_true rfl, Nat.le_of_ble_eq_true rfl⟩ rfl rfl ⟨Nat.zero_le _, Nat.zero_le _⟩ dX5_set_17 (fun r_17 g_1 H locs hP hS hp => ?_)
  obtain ⟨hr_17, hM, hF1⟩ := hp
  subst hr_17
  have hFr := hFr.tr (hF1.mono (by intro x9 hx9; first | (dsimp only [zOne, zRg, zCl] at hx9 ⊢; omega) | (dsimp only at hx9 ⊢; omega) | omega))
  refine z_topi (y := 0) (if_neg (by decide)) ?_
  refine lv_if_eq (tgt := 32) hx hb dX5_set_20 (by decide) (fun c_20 => ?_) (fun c_20 => absurd c_20 (by decide))
  refine lv_iconst (v := 0) hx hb dX5_set_32 (by decide) ?_
  exact z_iret C0 hP hS hr (⟨rfl, hM, hFr⟩) dX5_set_33
set_option maxHeartbeats 4000000 in
set_option maxRecDepth 100000 in
theorem m_X5_appendb1 (l : Launch) {D : va_G} {cy : Nat → ClassId} {K : Nat} {ad : Nat → Nat} {g : Nat → va_E} (sz : Nat) {n : Nat} {sx az so ik sv tx kn lo : Nat → Int32} {th sm lz : Int32} {dg : Int64} {xz : Int32} (hM : isM cy K ad g n sx az so ik sv tx kn lo th sm lz dg) (hbd : xz < 33 ∨ 126 < xz) : Met l yX5_append (zs yX5_append cX5_append 2 (some .int)) ({ frames := 1, cells := 0, slots := 0, locals := 22 } : Room) (va_Pc [.ref (ad n), .int xz] (zIn D cy K ad g sz)) (va_Qi (fun r g1 => r = 0 ∧ isM cy K ad g1 n sx az so ik sv tx kn lo 1 sm lz dg ∧ zFr (zRg n (n + 9)) g g1) (zOut D cy K ad sz) (zA K ad sz)) 0 0 (zA K ad sz) := by
  refine z_met (by decide) (Nat.le_of_ble_eq_true rfl) (fun p e s m below meth c ls hsz hl C0 hr hnm hP hS => ?_)
  subst hsz
  have hl : lv_has ls 2 [(0, .ref (ad n)), (1, .int xz)] := hl
  have hx := C0.1; have hb := C0.2.1; have hown := C0.2.2.2.1; have hts := C0.2.2.2.2.1
  have hFr : zFr (zRg n (n + 9)) g g := zFr.rf
  refine lv_aload_n hx hb dX5_append_0 rfl (lv_at hl 0 rfl) ?_
  refine lv_iload_n hx hb dX5_append_1 rfl (lv_at hl 1 rfl) ?_
  refine lv_bipush (v := 33) hx hb dX5_append_2 (by decide) ?_
  refine lv_bipush (v := 126) hx hb dX5_append_4 (by decide) ?_
  refine z_Si_eq (As := [.int xz, .int 33, .int 126]) (rest := [.ref (ad n)]) C0 hP hS hl.1 (m_X5_in l _ ) lk_X5_39 rfl rfl (Nat.le_of_ble_eq_true rfl) ⟨Nat.le_of_ble_eq_true rfl, Nat.le_of_ble_eq_true rfl⟩ rfl rfl ⟨Nat.zero_le _, Nat.zero_le _⟩ dX5_append_6 (fun H locs hP hS => ?_)
  refine z_topi (y := 0) (zin1 hbd) ?_
  refine lv_if_ne (tgt := 16) hx hb dX5_append_9 (by decide) (fun c_9 => absurd c_9 (by decide)) (fun c_9 => ?_)
  refine lv_iconst (v := 1) hx hb dX5_append_12 (by decide) ?_
  refine lv_goto (tgt := 30) hx hb dX5_append_13 (by decide) ?_
  refine z_Vi_mo (As := [.int 1]) (rest := []) C0 hP hS hl.1 (m_X5_holds l _ hM) lk_X5_86 hM.n0 hM.o rfl rfl (Nat.le_of_ble_eq_true rfl) ⟨Nat.le_of_ble_eq_true rfl, Nat.le_of_ble_eq_true rfl⟩ rfl rfl ⟨Nat.zero_le _, Nat.zero_le _⟩ dX5_append_30 (fun r_30 g_1 H locs hP hS hp => ?_)
  obtain ⟨hr_30, hM, hF1⟩ := hp
  subst hr_30
  have hFr := hFr.tr (hF1.mono (by intro x9 hx9; first | (dsimp only [zOne, zRg, zCl] at hx9 ⊢; omega) | (dsimp only at hx9 ⊢; omega) | omega))
  refine z_topi (y := 0) (if_neg (by decide)) ?_
  refine lv_if_ne (tgt := 38) hx hb dX5_append_33 (by decide) (fun c_33 => absurd c_33 (by decide)) (fun c_33 => ?_)
  refine lv_iconst (v := 0) hx hb dX5_append_36 (by decide) ?_
  exact z_iret C0 hP hS hr (⟨rfl, hM, hFr⟩) dX5_append_37
set_option maxHeartbeats 4000000 in
set_option maxRecDepth 100000 in
theorem m_X5_appendb2 (l : Launch) {D : va_G} {cy : Nat → ClassId} {K : Nat} {ad : Nat → Nat} {g : Nat → va_E} (sz : Nat) {n : Nat} {sx az so ik sv tx kn lo : Nat → Int32} {th sm : Int32} {dg : Int64} {vz : Int32} (hM : isM cy K ad g n sx az so ik sv tx kn lo th sm ((nI 60)) dg) (hv1 : ¬ vz < 33) (hv2 : vz ≤ 126) : Met l yX5_append (zs yX5_append cX5_append 2 (some .int)) ({ frames := 1, cells := 0, slots := 0, locals := 22 } : Room) (va_Pc [.ref (ad n), .int vz] (zIn D cy K ad g sz)) (va_Qi (fun r g1 => r = 0 ∧ isM cy K ad g1 n sx az so ik sv tx kn lo 2 sm (nI 60) dg ∧ zFr (zRg n (n + 9)) g g1) (zOut D cy K ad sz) (zA K ad sz)) 0 0 (zA K ad sz) := by
  refine z_met (by decide) (Nat.le_of_ble_eq_true rfl) (fun p e s m below meth c ls hsz hl C0 hr hnm hP hS => ?_)
  subst hsz
  have hl : lv_has ls 2 [(0, .ref (ad n)), (1, .int vz)] := hl
  have hx := C0.1; have hb := C0.2.1; have hown := C0.2.2.2.1; have hts := C0.2.2.2.2.1
  have hFr : zFr (zRg n (n + 9)) g g := zFr.rf
  refine lv_aload_n hx hb dX5_append_0 rfl (lv_at hl 0 rfl) ?_
  refine lv_iload_n hx hb dX5_append_1 rfl (lv_at hl 1 rfl) ?_
  refine lv_bipush (v := 33) hx hb dX5_append_2 (by decide) ?_
  refine lv_bipush (v := 126) hx hb dX5_append_4 (by decide) ?_
  refine z_Si_eq (As := [.int vz, .int 33, .int 126]) (rest := [.ref (ad n)]) C0 hP hS hl.1 (m_X5_in l _ ) lk_X5_39 rfl rfl (Nat.le_of_ble_eq_true rfl) ⟨Nat.le_of_ble_eq_true rfl, Nat.le_of_ble_eq_true rfl⟩ rfl rfl ⟨Nat.zero_le _, Nat.zero_le _⟩ dX5_append_6 (fun H locs hP hS => ?_)
  refine z_topi (y := 1) (if_pos ⟨Int32.not_lt.mp hv1, hv2⟩) ?_
  refine lv_if_ne (tgt := 16) hx hb dX5_append_9 (by decide) (fun c_9 => ?_) (fun c_9 => absurd c_9 (by decide))
  refine lv_aload_n hx hb dX5_append_16 rfl (lv_at hl 0 rfl) ?_
  refine z_get C0 hP hM.n0 hM.o fd_X5_104 rfl dX5_append_17 ?_
  refine lv_bipush (v := 60) hx hb dX5_append_20 (by decide) ?_
  refine lv_icmp_ne (tgt := 29) hx hb dX5_append_22 (by decide) (fun c_22 => absurd rfl c_22) (fun c_22 => ?_)
  refine lv_iconst (v := 2) hx hb dX5_append_25 (by decide) ?_
  refine lv_goto (tgt := 30) hx hb dX5_append_26 (by decide) ?_
  refine z_Vi_mo (As := [.int 2]) (rest := []) C0 hP hS hl.1 (m_X5_holds l _ hM) lk_X5_86 hM.n0 hM.o rfl rfl (Nat.le_of_ble_eq_true rfl) ⟨Nat.le_of_ble_eq_true rfl, Nat.le_of_ble_eq_true rfl⟩ rfl rfl ⟨Nat.zero_le _, Nat.zero_le _⟩ dX5_append_30 (fun r_30 g_1 H locs hP hS hp => ?_)
  obtain ⟨hr_30, hM, hF1⟩ := hp
  subst hr_30
  have hFr := hFr.tr (hF1.mono (by intro x9 hx9; first | (dsimp only [zOne, zRg, zCl] at hx9 ⊢; omega) | (dsimp only at hx9 ⊢; omega) | omega))
  refine z_topi (y := 0) (if_neg (by decide)) ?_
  refine lv_if_ne (tgt := 38) hx hb dX5_append_33 (by decide) (fun c_33 => absurd c_33 (by decide)) (fun c_33 => ?_)
  refine lv_iconst (v := 0) hx hb dX5_append_36 (by decide) ?_
  exact z_iret C0 hP hS hr (⟨rfl, hM, hFr⟩) dX5_append_37
set_option maxHeartbeats 4000000 in
set_option maxRecDepth 100000 in
theorem m_X5_cordOfb1 (l : Launch) {D : va_G} {cy : Nat → ClassId} {K : Nat} {ad : Nat → Nat} {g : Nat → va_E} (sz : Nat) {n : Nat} {sx az so ik sv tx kn lo : Nat → Int32} {th sm lz : Int32} {dg : Int64} {xz yz : Int32} (hM : isM cy K ad g n sx az so ik sv tx kn lo th sm lz dg) (hbd : xz < 0 ∨ 7 ≤ xz) : Met l yX5_cordOf (zs yX5_cordOf cX5_cordOf 3 (some .int)) ({ frames := 6, cells := 0, slots := 0, locals := 131 } : Room) (va_Pc [.ref (ad n), .int xz, .int yz] (zIn D cy K ad g sz)) (va_Qi (fun r g1 => r = 0 ∧ isM cy K ad g1 n sx az so ik sv tx kn lo 1 sm lz dg ∧ zFr (zRg n (n + 9)) g g1) (zOut D cy K ad sz) (zA K ad sz)) 0 0 (zA K ad sz) := by
  refine z_met (by decide) (Nat.le_of_ble_eq_true rfl) (fun p e s m below meth c ls hsz hl C0 hr hnm hP hS => ?_)
  subst hsz
  have hl : lv_has ls 3 [(0, .ref (ad n)), (1, .int xz), (2, .int yz)] := hl
  have hx := C0.1; have hb := C0.2.1; have hown := C0.2.2.2.1; have hts := C0.2.2.2.2.1
  have hFr : zFr (zRg n (n + 9)) g g := zFr.rf
  refine lv_aload_n hx hb dX5_cordOf_0 rfl (lv_at hl 0 rfl) ?_
  refine lv_iload_n hx hb dX5_cordOf_1 rfl (lv_at hl 1 rfl) ?_
  refine z_Si_eq (As := [.int xz]) (rest := [.ref (ad n)]) C0 hP hS hl.1 (m_X5_isCord l _ ) lk_X5_82 rfl rfl (Nat.le_of_ble_eq_true rfl) ⟨Nat.le_of_ble_eq_true rfl, Nat.le_of_ble_eq_true rfl⟩ rfl rfl ⟨Nat.zero_le _, Nat.zero_le _⟩ dX5_cordOf_2 (fun H locs hP hS => ?_)
  refine z_topi (y := 0) (zin0 hbd rfl) ?_
  refine lv_if_ne (tgt := 12) hx hb dX5_cordOf_5 (by decide) (fun c_5 => absurd c_5 (by decide)) (fun c_5 => ?_)
  refine lv_iconst (v := 1) hx hb dX5_cordOf_8 (by decide) ?_
  refine lv_goto (tgt := 27) hx hb dX5_cordOf_9 (by decide) ?_
  refine z_Vi_mo (As := [.int 1]) (rest := []) C0 hP hS hl.1 (m_X5_holds l _ hM) lk_X5_86 hM.n0 hM.o rfl rfl (Nat.le_of_ble_eq_true rfl) ⟨Nat.le_of_ble_eq_true rfl, Nat.le_of_ble_eq_true rfl⟩ rfl rfl ⟨Nat.zero_le _, Nat.zero_le _⟩ dX5_cordOf_27 (fun r_27 g_1 H locs hP hS hp => ?_)
  obtain ⟨hr_27, hM, hF1⟩ := hp
  subst hr_27
  have hFr := hFr.tr (hF1.mono (by intro x9 hx9; first | (dsimp only [zOne, zRg, zCl] at hx9 ⊢; omega) | (dsimp only at hx9 ⊢; omega) | omega))
  refine z_topi (y := 0) (if_neg (by decide)) ?_
  refine lv_if_eq (tgt := 42) hx hb dX5_cordOf_30 (by decide) (fun c_30 => ?_) (fun c_30 => absurd c_30 (by decide))
  refine lv_iconst (v := 0) hx hb dX5_cordOf_42 (by decide) ?_
  exact z_iret C0 hP hS hr (⟨rfl, hM, hFr⟩) dX5_cordOf_43
set_option maxHeartbeats 4000000 in
set_option maxRecDepth 100000 in
theorem m_X5_cordOfb2 (l : Launch) {D : va_G} {cy : Nat → ClassId} {K : Nat} {ad : Nat → Nat} {g : Nat → va_E} (sz : Nat) {n : Nat} {sx az so ik sv tx kn lo : Nat → Int32} {th sm lz : Int32} {dg : Int64} {iz : Nat} {xz : Int32} (hM : isM cy K ad g n sx az so ik sv tx kn lo th sm lz dg) (hi : iz < 7) (hbd : xz < 0 ∨ 8 ≤ xz) : Met l yX5_cordOf (zs yX5_cordOf cX5_cordOf 3 (some .int)) ({ frames := 6, cells := 0, slots := 0, locals := 131 } : Room) (va_Pc [.ref (ad n), .int (nI iz), .int xz] (zIn D cy K ad g sz)) (va_Qi (fun r g1 => r = 0 ∧ isM cy K ad g1 n sx az so ik sv tx kn lo 2 sm lz dg ∧ zFr (zRg n (n + 9)) g g1) (zOut D cy K ad sz) (zA K ad sz)) 0 0 (zA K ad sz) := by
  refine z_met (by decide) (Nat.le_of_ble_eq_true rfl) (fun p e s m below meth c ls hsz hl C0 hr hnm hP hS => ?_)
  subst hsz
  have hl : lv_has ls 3 [(0, .ref (ad n)), (1, .int (nI iz)), (2, .int xz)] := hl
  have hx := C0.1; have hb := C0.2.1; have hown := C0.2.2.2.1; have hts := C0.2.2.2.2.1
  have hFr : zFr (zRg n (n + 9)) g g := zFr.rf
  refine lv_aload_n hx hb dX5_cordOf_0 rfl (lv_at hl 0 rfl) ?_
  refine lv_iload_n hx hb dX5_cordOf_1 rfl (lv_at hl 1 rfl) ?_
  refine z_Si_eq (As := [.int (nI iz)]) (rest := [.ref (ad n)]) C0 hP hS hl.1 (m_X5_isCord l _ ) lk_X5_82 rfl rfl (Nat.le_of_ble_eq_true rfl) ⟨Nat.le_of_ble_eq_true rfl, Nat.le_of_ble_eq_true rfl⟩ rfl rfl ⟨Nat.zero_le _, Nat.zero_le _⟩ dX5_cordOf_2 (fun H locs hP hS => ?_)
  refine z_topi (y := 1) (zc1 hi) ?_
  refine lv_if_ne (tgt := 12) hx hb dX5_cordOf_5 (by decide) (fun c_5 => ?_) (fun c_5 => absurd c_5 (by decide))
  refine lv_iload_n hx hb dX5_cordOf_12 rfl (lv_at hl 2 rfl) ?_
  refine lv_iconst (v := 0) hx hb dX5_cordOf_13 (by decide) ?_
  refine lv_bipush (v := 7) hx hb dX5_cordOf_14 (by decide) ?_
  refine z_Si_eq (As := [.int xz, .int 0, .int 7]) (rest := [.ref (ad n)]) C0 hP hS hl.1 (m_X5_in l _ ) lk_X5_39 rfl rfl (Nat.le_of_ble_eq_true rfl) ⟨Nat.le_of_ble_eq_true rfl, Nat.le_of_ble_eq_true rfl⟩ rfl rfl ⟨Nat.zero_le _, Nat.zero_le _⟩ dX5_cordOf_16 (fun H locs hP hS => ?_)
  refine z_topi (y := 0) (zin0 hbd rfl) ?_
  refine lv_if_ne (tgt := 26) hx hb dX5_cordOf_19 (by decide) (fun c_19 => absurd c_19 (by decide)) (fun c_19 => ?_)
  refine lv_iconst (v := 2) hx hb dX5_cordOf_22 (by decide) ?_
  refine lv_goto (tgt := 27) hx hb dX5_cordOf_23 (by decide) ?_
  refine z_Vi_mo (As := [.int 2]) (rest := []) C0 hP hS hl.1 (m_X5_holds l _ hM) lk_X5_86 hM.n0 hM.o rfl rfl (Nat.le_of_ble_eq_true rfl) ⟨Nat.le_of_ble_eq_true rfl, Nat.le_of_ble_eq_true rfl⟩ rfl rfl ⟨Nat.zero_le _, Nat.zero_le _⟩ dX5_cordOf_27 (fun r_27 g_1 H locs hP hS hp => ?_)
  obtain ⟨hr_27, hM, hF1⟩ := hp
  subst hr_27
  have hFr := hFr.tr (hF1.mono (by intro x9 hx9; first | (dsimp only [zOne, zRg, zCl] at hx9 ⊢; omega) | (dsimp only at hx9 ⊢; omega) | omega))
  refine z_topi (y := 0) (if_neg (by decide)) ?_
  refine lv_if_eq (tgt := 42) hx hb dX5_cordOf_30 (by decide) (fun c_30 => ?_) (fun c_30 => absurd c_30 (by decide))
  refine lv_iconst (v := 0) hx hb dX5_cordOf_42 (by decide) ?_
  exact z_iret C0 hP hS hr (⟨rfl, hM, hFr⟩) dX5_cordOf_43
set_option maxHeartbeats 4000000 in
set_option maxRecDepth 100000 in
theorem m_X5_placeOfb1 (l : Launch) {D : va_G} {cy : Nat → ClassId} {K : Nat} {ad : Nat → Nat} {g : Nat → va_E} (sz : Nat) {n : Nat} {sx az so ik sv tx kn lo : Nat → Int32} {th sm lz : Int32} {dg : Int64} {xz yz wz : Int32} (hM : isM cy K ad g n sx az so ik sv tx kn lo th sm lz dg) (hbd : xz < 0 ∨ 7 ≤ xz) : Met l yX5_placeOf (zs yX5_placeOf cX5_placeOf 4 (some .int)) ({ frames := 4, cells := 0, slots := 0, locals := 89 } : Room) (va_Pc [.ref (ad n), .int xz, .int yz, .int wz] (zIn D cy K ad g sz)) (va_Qi (fun r g1 => r = 0 ∧ isM cy K ad g1 n sx az so ik sv tx kn lo 1 sm lz dg ∧ zFr (zRg n (n + 9)) g g1) (zOut D cy K ad sz) (zA K ad sz)) 0 0 (zA K ad sz) := by
  refine z_met (by decide) (Nat.le_of_ble_eq_true rfl) (fun p e s m below meth c ls hsz hl C0 hr hnm hP hS => ?_)
  subst hsz
  have hl : lv_has ls 4 [(0, .ref (ad n)), (1, .int xz), (2, .int yz), (3, .int wz)] := hl
  have hx := C0.1; have hb := C0.2.1; have hown := C0.2.2.2.1; have hts := C0.2.2.2.2.1
  have hFr : zFr (zRg n (n + 9)) g g := zFr.rf
  refine lv_aload_n hx hb dX5_placeOf_0 rfl (lv_at hl 0 rfl) ?_
  refine lv_iload_n hx hb dX5_placeOf_1 rfl (lv_at hl 1 rfl) ?_
  refine z_Si_eq (As := [.int xz]) (rest := [.ref (ad n)]) C0 hP hS hl.1 (m_X5_isCord l _ ) lk_X5_82 rfl rfl (Nat.le_of_ble_eq_true rfl) ⟨Nat.le_of_ble_eq_true rfl, Nat.le_of_ble_eq_true rfl⟩ rfl rfl ⟨Nat.zero_le _, Nat.zero_le _⟩ dX5_placeOf_2 (fun H locs hP hS => ?_)
  refine z_topi (y := 0) (zin0 hbd rfl) ?_
  refine lv_if_eq (tgt := 17) hx hb dX5_placeOf_5 (by decide) (fun c_5 => ?_) (fun c_5 => absurd c_5 (by decide))
  refine lv_iconst (v := 1) hx hb dX5_placeOf_17 (by decide) ?_
  refine lv_goto (tgt := 35) hx hb dX5_placeOf_18 (by decide) ?_
  refine z_Vi_mo (As := [.int 1]) (rest := []) C0 hP hS hl.1 (m_X5_holds l _ hM) lk_X5_86 hM.n0 hM.o rfl rfl (Nat.le_of_ble_eq_true rfl) ⟨Nat.le_of_ble_eq_true rfl, Nat.le_of_ble_eq_true rfl⟩ rfl rfl ⟨Nat.zero_le _, Nat.zero_le _⟩ dX5_placeOf_35 (fun r_35 g_1 H locs hP hS hp => ?_)
  obtain ⟨hr_35, hM, hF1⟩ := hp
  subst hr_35
  have hFr := hFr.tr (hF1.mono (by intro x9 hx9; first | (dsimp only [zOne, zRg, zCl] at hx9 ⊢; omega) | (dsimp only at hx9 ⊢; omega) | omega))
  refine z_topi (y := 0) (if_neg (by decide)) ?_
  refine lv_if_eq (tgt := 51) hx hb dX5_placeOf_38 (by decide) (fun c_38 => ?_) (fun c_38 => absurd c_38 (by decide))
  refine lv_iconst (v := 0) hx hb dX5_placeOf_51 (by decide) ?_
  exact z_iret C0 hP hS hr (⟨rfl, hM, hFr⟩) dX5_placeOf_52
set_option maxHeartbeats 4000000 in
set_option maxRecDepth 100000 in
theorem m_X5_placeOfb2 (l : Launch) {D : va_G} {cy : Nat → ClassId} {K : Nat} {ad : Nat → Nat} {g : Nat → va_E} (sz : Nat) {n : Nat} {sx az so ik sv tx kn lo : Nat → Int32} {th sm lz : Int32} {dg : Int64} {iz : Nat} {xz wz : Int32} (hM : isM cy K ad g n sx az so ik sv tx kn lo th sm lz dg) (hi : iz < 7) (hbd : xz < 0 ∨ 6 ≤ xz) : Met l yX5_placeOf (zs yX5_placeOf cX5_placeOf 4 (some .int)) ({ frames := 4, cells := 0, slots := 0, locals := 89 } : Room) (va_Pc [.ref (ad n), .int (nI iz), .int xz, .int wz] (zIn D cy K ad g sz)) (va_Qi (fun r g1 => r = 0 ∧ isM cy K ad g1 n sx az so ik sv tx kn lo 1 sm lz dg ∧ zFr (zRg n (n + 9)) g g1) (zOut D cy K ad sz) (zA K ad sz)) 0 0 (zA K ad sz) := by
  refine z_met (by decide) (Nat.le_of_ble_eq_true rfl) (fun p e s m below meth c ls hsz hl C0 hr hnm hP hS => ?_)
  subst hsz
  have hl : lv_has ls 4 [(0, .ref (ad n)), (1, .int (nI iz)), (2, .int xz), (3, .int wz)] := hl
  have hx := C0.1; have hb := C0.2.1; have hown := C0.2.2.2.1; have hts := C0.2.2.2.2.1
  have hFr : zFr (zRg n (n + 9)) g g := zFr.rf
  refine lv_aload_n hx hb dX5_placeOf_0 rfl (lv_at hl 0 rfl) ?_
  refine lv_iload_n hx hb dX5_placeOf_1 rfl (lv_at hl 1 rfl) ?_
  refine z_Si_eq (As := [.int (nI iz)]) (rest := [.ref (ad n)]) C0 hP hS hl.1 (m_X5_isCord l _ ) lk_X5_82 rfl rfl (Nat.le_of_ble_eq_true rfl) ⟨Nat.le_of_ble_eq_true rfl, Nat.le_of_ble_eq_true rfl⟩ rfl rfl ⟨Nat.zero_le _, Nat.zero_le _⟩ dX5_placeOf_2 (fun H locs hP hS => ?_)
  refine z_topi (y := 1) (zc1 hi) ?_
  refine lv_if_eq (tgt := 17) hx hb dX5_placeOf_5 (by decide) (fun c_5 => absurd c_5 (by decide)) (fun c_5 => ?_)
  refine lv_iload_n hx hb dX5_placeOf_8 rfl (lv_at hl 2 rfl) ?_
  refine lv_iconst (v := 0) hx hb dX5_placeOf_9 (by decide) ?_
  refine lv_iconst (v := 5) hx hb dX5_placeOf_10 (by decide) ?_
  refine z_Si_eq (As := [.int xz, .int 0, .int 5]) (rest := [.ref (ad n)]) C0 hP hS hl.1 (m_X5_in l _ ) lk_X5_39 rfl rfl (Nat.le_of_ble_eq_true rfl) ⟨Nat.le_of_ble_eq_true rfl, Nat.le_of_ble_eq_true rfl⟩ rfl rfl ⟨Nat.zero_le _, Nat.zero_le _⟩ dX5_placeOf_11 (fun H locs hP hS => ?_)
  refine z_topi (y := 0) (zin0 hbd rfl) ?_
  refine lv_if_ne (tgt := 21) hx hb dX5_placeOf_14 (by decide) (fun c_14 => absurd c_14 (by decide)) (fun c_14 => ?_)
  refine lv_iconst (v := 1) hx hb dX5_placeOf_17 (by decide) ?_
  refine lv_goto (tgt := 35) hx hb dX5_placeOf_18 (by decide) ?_
  refine z_Vi_mo (As := [.int 1]) (rest := []) C0 hP hS hl.1 (m_X5_holds l _ hM) lk_X5_86 hM.n0 hM.o rfl rfl (Nat.le_of_ble_eq_true rfl) ⟨Nat.le_of_ble_eq_true rfl, Nat.le_of_ble_eq_true rfl⟩ rfl rfl ⟨Nat.zero_le _, Nat.zero_le _⟩ dX5_placeOf_35 (fun r_35 g_1 H locs hP hS hp => ?_)
  obtain ⟨hr_35, hM, hF1⟩ := hp
  subst hr_35
  have hFr := hFr.tr (hF1.mono (by intro x9 hx9; first | (dsimp only [zOne, zRg, zCl] at hx9 ⊢; omega) | (dsimp only at hx9 ⊢; omega) | omega))
  refine z_topi (y := 0) (if_neg (by decide)) ?_
  refine lv_if_eq (tgt := 51) hx hb dX5_placeOf_38 (by decide) (fun c_38 => ?_) (fun c_38 => absurd c_38 (by decide))
  refine lv_iconst (v := 0) hx hb dX5_placeOf_51 (by decide) ?_
  exact z_iret C0 hP hS hr (⟨rfl, hM, hFr⟩) dX5_placeOf_52
set_option maxHeartbeats 4000000 in
set_option maxRecDepth 100000 in
theorem m_X5_placeOfb3 (l : Launch) {D : va_G} {cy : Nat → ClassId} {K : Nat} {ad : Nat → Nat} {g : Nat → va_E} (sz : Nat) {n : Nat} {sx az so ik sv tx kn lo : Nat → Int32} {th sm lz : Int32} {dg : Int64} {iz jz : Nat} {xz : Int32} (hM : isM cy K ad g n sx az so ik sv tx kn lo th sm lz dg) (hi : iz < 7) (hj : jz < 6) (hbd : xz < 0 ∨ 4 ≤ xz) : Met l yX5_placeOf (zs yX5_placeOf cX5_placeOf 4 (some .int)) ({ frames := 4, cells := 0, slots := 0, locals := 89 } : Room) (va_Pc [.ref (ad n), .int (nI iz), .int (nI jz), .int xz] (zIn D cy K ad g sz)) (va_Qi (fun r g1 => r = 0 ∧ isM cy K ad g1 n sx az so ik sv tx kn lo 2 sm lz dg ∧ zFr (zRg n (n + 9)) g g1) (zOut D cy K ad sz) (zA K ad sz)) 0 0 (zA K ad sz) := by
  refine z_met (by decide) (Nat.le_of_ble_eq_true rfl) (fun p e s m below meth c ls hsz hl C0 hr hnm hP hS => ?_)
  subst hsz
  have hl : lv_has ls 4 [(0, .ref (ad n)), (1, .int (nI iz)), (2, .int (nI jz)), (3, .int xz)] := hl
  have hx := C0.1; have hb := C0.2.1; have hown := C0.2.2.2.1; have hts := C0.2.2.2.2.1
  have hFr : zFr (zRg n (n + 9)) g g := zFr.rf
  refine lv_aload_n hx hb dX5_placeOf_0 rfl (lv_at hl 0 rfl) ?_
  refine lv_iload_n hx hb dX5_placeOf_1 rfl (lv_at hl 1 rfl) ?_
  refine z_Si_eq (As := [.int (nI iz)]) (rest := [.ref (ad n)]) C0 hP hS hl.1 (m_X5_isCord l _ ) lk_X5_82 rfl rfl (Nat.le_of_ble_eq_true rfl) ⟨Nat.le_of_ble_eq_true rfl, Nat.le_of_ble_eq_true rfl⟩ rfl rfl ⟨Nat.zero_le _, Nat.zero_le _⟩ dX5_placeOf_2 (fun H locs hP hS => ?_)
  refine z_topi (y := 1) (zc1 hi) ?_
  refine lv_if_eq (tgt := 17) hx hb dX5_placeOf_5 (by decide) (fun c_5 => absurd c_5 (by decide)) (fun c_5 => ?_)
  refine lv_iload_n hx hb dX5_placeOf_8 rfl (lv_at hl 2 rfl) ?_
  refine lv_iconst (v := 0) hx hb dX5_placeOf_9 (by decide) ?_
  refine lv_iconst (v := 5) hx hb dX5_placeOf_10 (by decide) ?_
  refine z_Si_eq (As := [.int (nI jz), .int 0, .int 5]) (rest := [.ref (ad n)]) C0 hP hS hl.1 (m_X5_in l _ ) lk_X5_39 rfl rfl (Nat.le_of_ble_eq_true rfl) ⟨Nat.le_of_ble_eq_true rfl, Nat.le_of_ble_eq_true rfl⟩ rfl rfl ⟨Nat.zero_le _, Nat.zero_le _⟩ dX5_placeOf_11 (fun H locs hP hS => ?_)
  refine z_topi (y := 1) (zc1' (m := 5) (by omega) (by decide)) ?_
  refine lv_if_ne (tgt := 21) hx hb dX5_placeOf_14 (by decide) (fun c_14 => ?_) (fun c_14 => absurd c_14 (by decide))
  refine lv_iload_n hx hb dX5_placeOf_21 rfl (lv_at hl 3 rfl) ?_
  refine lv_iconst (v := 0) hx hb dX5_placeOf_22 (by decide) ?_
  refine lv_iconst (v := 3) hx hb dX5_placeOf_23 (by decide) ?_
  refine z_Si_eq (As := [.int xz, .int 0, .int 3]) (rest := [.ref (ad n)]) C0 hP hS hl.1 (m_X5_in l _ ) lk_X5_39 rfl rfl (Nat.le_of_ble_eq_true rfl) ⟨Nat.le_of_ble_eq_true rfl, Nat.le_of_ble_eq_true rfl⟩ rfl rfl ⟨Nat.zero_le _, Nat.zero_le _⟩ dX5_placeOf_24 (fun H locs hP hS => ?_)
  refine z_topi (y := 0) (zin0 hbd rfl) ?_
  refine lv_if_ne (tgt := 34) hx hb dX5_placeOf_27 (by decide) (fun c_27 => absurd c_27 (by decide)) (fun c_27 => ?_)
  refine lv_iconst (v := 2) hx hb dX5_placeOf_30 (by decide) ?_
  refine lv_goto (tgt := 35) hx hb dX5_placeOf_31 (by decide) ?_
  refine z_Vi_mo (As := [.int 2]) (rest := []) C0 hP hS hl.1 (m_X5_holds l _ hM) lk_X5_86 hM.n0 hM.o rfl rfl (Nat.le_of_ble_eq_true rfl) ⟨Nat.le_of_ble_eq_true rfl, Nat.le_of_ble_eq_true rfl⟩ rfl rfl ⟨Nat.zero_le _, Nat.zero_le _⟩ dX5_placeOf_35 (fun r_35 g_1 H locs hP hS hp => ?_)
  obtain ⟨hr_35, hM, hF1⟩ := hp
  subst hr_35
  have hFr := hFr.tr (hF1.mono (by intro x9 hx9; first | (dsimp only [zOne, zRg, zCl] at hx9 ⊢; omega) | (dsimp only at hx9 ⊢; omega) | omega))
  refine z_topi (y := 0) (if_neg (by decide)) ?_
  refine lv_if_eq (tgt := 51) hx hb dX5_placeOf_38 (by decide) (fun c_38 => ?_) (fun c_38 => absurd c_38 (by decide))
  refine lv_iconst (v := 0) hx hb dX5_placeOf_51 (by decide) ?_
  exact z_iret C0 hP hS hr (⟨rfl, hM, hFr⟩) dX5_placeOf_52
