set_option maxHeartbeats 4000000 in
set_option maxRecDepth 100000 in
theorem m_X5_does (l : Launch) {D : va_G} {cy : Nat → ClassId} {K : Nat} {ad : Nat → Nat} {g : Nat → va_E} (sz : Nat) {n : Nat} {sx az so ik sv tx kn lo : Nat → Int32} {th sm : Int32} {dg : Int64} {lw pz cz iz jz : Nat} (hM : isM cy K ad g n sx az so ik sv tx kn lo th sm ((nI lw)) dg) (hln : lw ≤ 60) (hp : pz < 2 ^ 30) (hpc : pcOK sx) (hi : iz < 7) (hc : dgF tx lw pz = nI iz) (k62 : chF tx lw (pz + 1) = 62 → dgF tx lw (pz + 2) = nI jz ∧ jz < 7) (k126 : chF tx lw (pz + 1) = 126 → dgF tx lw (pz + 2) = nI jz ∧ jz < 6) (hcz : cz ≤ 8) : Met l yX5_does (zs yX5_does cX5_does 6 (some .boolean)) ({ frames := 8, cells := 0, slots := 0, locals := 183 } : Room) (va_Pc [.ref (ad n), .int (nI pz), .int (nI (pz + 2 + cz))] (zIn D cy K ad g sz)) (va_Qi (fun r g1 => r = doneI sx (chF tx lw (pz + 1)) iz jz (numN tx lw (pz + 2) cz) ∧ (∃ kn lo : Nat → Int32, isM cy K ad g1 n (ordM sx (chF tx lw (pz + 1)) iz jz (numN tx lw (pz + 2) cz)) az so ik sv tx kn lo th sm (nI lw) dg) ∧ zFr (zRg n (n + 9)) g g1) (zOut D cy K ad sz) (zA K ad sz)) 0 0 (zA K ad sz) := by
  refine z_met (by decide) (Nat.le_of_ble_eq_true rfl) (fun p e s m below meth c ls hsz hl C0 hr hnm hP hS => ?_)
  subst hsz
  have hl : lv_has ls 6 [(0, .ref (ad n)), (1, .int (nI pz)), (2, .int (nI (pz + 2 + cz)))] := hl
  have hx := C0.1; have hb := C0.2.1; have hown := C0.2.2.2.1; have hts := C0.2.2.2.2.1
  have hFr : zFr (zRg n (n + 9)) g g := zFr.rf
  refine lv_aload_n hx hb dX5_does_0 rfl (lv_at hl 0 rfl) ?_
  refine lv_iload_n hx hb dX5_does_1 rfl (lv_at hl 1 rfl) ?_
  refine z_Vi_eq (As := [.int (nI pz)]) (rest := []) C0 hP hS hl.1 (m_X5_digitAt l _ hM hln (by omega)) lk_X5_110 hM.n0 hM.o rfl rfl (Nat.le_of_ble_eq_true rfl) ⟨Nat.le_of_ble_eq_true rfl, Nat.le_of_ble_eq_true rfl⟩ rfl rfl ⟨Nat.zero_le _, Nat.zero_le _⟩ dX5_does_2 (fun H locs hP hS => ?_)
  refine z_topi (y := nI iz) hc ?_
  refine lv_istore_n (lv' := [(3, .int (nI iz)), (0, .ref (ad n)), (1, .int (nI pz)), (2, .int (nI (pz + 2 + cz)))]) hx hb dX5_does_5 rfl hl (by decide) rfl (fun ls hl => ?_)
  refine lv_aload_n hx hb dX5_does_6 rfl (lv_at hl 1 rfl) ?_
  refine lv_iload_n hx hb dX5_does_7 rfl (lv_at hl 2 rfl) ?_
  refine lv_iconst (v := 1) hx hb dX5_does_8 (by decide) ?_
  refine lv_iadd hx hb dX5_does_9 ?_
  refine z_topi (y := nI (pz + 1)) (nI_1 _) ?_
  refine z_Vi_eq (As := [.int (nI (pz + 1))]) (rest := []) C0 hP hS hl.1 (m_X5_charAt l _ hM hln (by omega)) lk_X5_107 hM.n0 hM.o rfl rfl (Nat.le_of_ble_eq_true rfl) ⟨Nat.le_of_ble_eq_true rfl, Nat.le_of_ble_eq_true rfl⟩ rfl rfl ⟨Nat.zero_le _, Nat.zero_le _⟩ dX5_does_10 (fun H locs hP hS => ?_)
  refine lv_bipush (v := 62) hx hb dX5_does_13 (by decide) ?_
  refine lv_icmp_ne (tgt := 50) hx hb dX5_does_15 (by decide) (fun c_15 => ?_) (fun c_15 => ?_)
  · refine lv_aload_n hx hb dX5_does_50 rfl (lv_at hl 1 rfl) ?_
    refine lv_iload_n hx hb dX5_does_51 rfl (lv_at hl 2 rfl) ?_
    refine lv_iconst (v := 1) hx hb dX5_does_52 (by decide) ?_
    refine lv_iadd hx hb dX5_does_53 ?_
    refine z_topi (y := nI (pz + 1)) (nI_1 _) ?_
    refine z_Vi_eq (As := [.int (nI (pz + 1))]) (rest := []) C0 hP hS hl.1 (m_X5_charAt l _ hM hln (by omega)) lk_X5_107 hM.n0 hM.o rfl rfl (Nat.le_of_ble_eq_true rfl) ⟨Nat.le_of_ble_eq_true rfl, Nat.le_of_ble_eq_true rfl⟩ rfl rfl ⟨Nat.zero_le _, Nat.zero_le _⟩ dX5_does_54 (fun H locs hP hS => ?_)
    refine lv_bipush (v := 126) hx hb dX5_does_57 (by decide) ?_
    refine lv_icmp_ne (tgt := 84) hx hb dX5_does_59 (by decide) (fun c_59 => ?_) (fun c_59 => ?_)
    · refine lv_iconst (v := 0) hx hb dX5_does_84 (by decide) ?_
      refine lv_istore (lv' := [(4, .int 0), (3, .int (nI iz)), (0, .ref (ad n)), (1, .int (nI pz)), (2, .int (nI (pz + 2 + cz)))]) hx hb dX5_does_85 hl (by decide) rfl (fun ls hl => ?_)
      refine lv_iload_n hx hb dX5_does_87 rfl (lv_at hl 3 rfl) ?_
      refine lv_iconst (v := 2) hx hb dX5_does_88 (by decide) ?_
      refine lv_iadd hx hb dX5_does_89 ?_
      refine z_topi (y := nI (pz + 2)) (nI_add pz 2) ?_
      refine lv_istore (lv' := [(5, .int (nI (pz + 2))), (4, .int 0), (3, .int (nI iz)), (0, .ref (ad n)), (1, .int (nI pz)), (2, .int (nI (pz + 2 + cz)))]) hx hb dX5_does_90 hl (by decide) rfl (fun ls hl => ?_)
      have lp_92 : ∀ (N : Nat) (kz : Nat) (hk : kz ≤ cz), cz - kz < N → ∀ (H : Heap) (locs : List Loc) (ls : Array Slot), zP D K ad g (zA K ad s.heap.size) H → va_S (zA K ad s.heap.size) s.heap H locs → lv_has ls 6 [(0, .ref (ad n)), (1, .int (nI pz)), (2, .int (nI (pz + 2 + cz))), (3, .int (nI iz)), (4, .int (numN tx lw (pz + 2) kz)), (5, .int (nI (pz + 2 + kz)))] → W p l e ({ frames := 8, cells := 0, slots := 0, locals := 183 } : Room) s m [.ref (ad n), .int (nI pz), .int (nI (pz + 2 + cz))].toArray below meth c H locs 0 0 (MQ below (va_Qi (fun r g1 => r = doneI sx (chF tx lw (pz + 1)) iz jz (numN tx lw (pz + 2) cz) ∧ (∃ kn lo : Nat → Int32, isM cy K ad g1 n (ordM sx (chF tx lw (pz + 1)) iz jz (numN tx lw (pz + 2) cz)) az so ik sv tx kn lo th sm (nI lw) dg) ∧ zFr (zRg n (n + 9)) g g1) (zOut D cy K ad s.heap.size) (zA K ad s.heap.size)) [.ref (ad n), .int (nI pz), .int (nI (pz + 2 + cz))].toArray s 0 0 (zA K ad s.heap.size)) (F0 m 92 ls []) := by
        intro N
        induction N with
        | zero => intro kz hk hN; exact absurd hN (Nat.not_lt_zero _)
        | succ N ih_92 =>
          intro kz hk hN H locs ls hP hS  hl
          refine lv_iload hx hb dX5_does_92 (lv_at hl 5 rfl) ?_
          refine lv_iload_n hx hb dX5_does_94 rfl (lv_at hl 2 rfl) ?_
          refine lv_icmp_ge (tgt := 118) hx hb dX5_does_95 (by decide) (fun c_95 => ?_) (fun c_95 => ?_)
          · have hk2 : kz = cz := by have := z_ge_t c_95 (by omega) (by omega); omega
            rw [hk2] at hl
            refine lv_aload_n hx hb dX5_does_118 rfl (lv_at hl 0 rfl) ?_
            refine lv_iload_n hx hb dX5_does_119 rfl (lv_at hl 3 rfl) ?_
            refine lv_iload hx hb dX5_does_120 (lv_at hl 4 rfl) ?_
            refine z_Vi_mo (As := [.int (nI iz), .int (numN tx lw (pz + 2) cz)]) (rest := []) C0 hP hS hl.1 (m_X5_tiesPart l _ hM hi hpc) lk_X5_76 hM.n0 hM.o rfl rfl (Nat.le_of_ble_eq_true rfl) ⟨Nat.le_of_ble_eq_true rfl, Nat.le_of_ble_eq_true rfl⟩ rfl rfl ⟨Nat.zero_le _, Nat.zero_le _⟩ dX5_does_122 (fun r_122 g_2 H locs hP hS hp => ?_)
            obtain ⟨hr_122, ⟨kn1, lo1, hM⟩, hF1⟩ := hp
            subst hr_122
            have hFr := hFr.tr (hF1.mono (by intro x9 hx9; first | (dsimp only [zOne, zRg, zCl] at hx9 ⊢; omega) | (dsimp only at hx9 ⊢; omega) | omega))
            refine lv_bipush (v := 10) hx hb dX5_does_125 (by decide) ?_
            refine lv_icmp_lt (tgt := 134) hx hb dX5_does_127 (by decide) (fun c_127 => ?_) (fun c_127 => ?_)
            · refine lv_iconst (v := 0) hx hb dX5_does_134 (by decide) ?_
              exact z_zret C0 hP hS hr rfl (⟨(show 0 = doneI sx (chF tx lw (pz + 1)) iz jz (numN tx lw (pz + 2) cz) from ((if_neg c_15).trans ((if_neg c_59).trans (if_pos c_127))).symm), ⟨_, _, by unfold ordM; rw [show (if chF tx lw (pz + 1) = 62 then addS sx iz jz else if chF tx lw (pz + 1) = 126 then slipS sx iz jz else tieS sx iz (numN tx lw (pz + 2) cz)) = _ from (if_neg c_15).trans (if_neg c_59)]; exact hM⟩, hFr⟩) dX5_does_135
            · refine lv_iconst (v := 1) hx hb dX5_does_130 (by decide) ?_
              refine lv_goto (tgt := 135) hx hb dX5_does_131 (by decide) ?_
              exact z_zret C0 hP hS hr rfl (⟨(show 1 = doneI sx (chF tx lw (pz + 1)) iz jz (numN tx lw (pz + 2) cz) from ((if_neg c_15).trans ((if_neg c_59).trans (if_neg c_127))).symm), ⟨_, _, by unfold ordM; rw [show (if chF tx lw (pz + 1) = 62 then addS sx iz jz else if chF tx lw (pz + 1) = 126 then slipS sx iz jz else tieS sx iz (numN tx lw (pz + 2) cz)) = _ from (if_neg c_15).trans (if_neg c_59)]; exact hM⟩, hFr⟩) dX5_does_135
          · have hk2 : kz < cz := by have := z_ge_f c_95 (by omega) (by omega); omega
            refine lv_bipush (v := 10) hx hb dX5_does_98 (by decide) ?_
            refine lv_iload hx hb dX5_does_100 (lv_at hl 4 rfl) ?_
            refine lv_imul hx hb dX5_does_102 ?_
            refine lv_aload_n hx hb dX5_does_103 rfl (lv_at hl 0 rfl) ?_
            refine lv_iload hx hb dX5_does_104 (lv_at hl 5 rfl) ?_
            refine z_Vi_eq (As := [.int (nI (pz + 2 + kz))]) (rest := [.int (10 * (numN tx lw (pz + 2) kz))]) C0 hP hS hl.1 (m_X5_digitAt l _ hM hln (by omega)) lk_X5_110 hM.n0 hM.o rfl rfl (Nat.le_of_ble_eq_true rfl) ⟨Nat.le_of_ble_eq_true rfl, Nat.le_of_ble_eq_true rfl⟩ rfl rfl ⟨Nat.zero_le _, Nat.zero_le _⟩ dX5_does_106 (fun H locs hP hS => ?_)
            refine lv_iadd hx hb dX5_does_109 ?_
            refine z_topi (y := numN tx lw (pz + 2) (kz + 1)) rfl ?_
            refine lv_istore (lv' := [(4, .int (numN tx lw (pz + 2) (kz + 1))), (0, .ref (ad n)), (1, .int (nI pz)), (2, .int (nI (pz + 2 + cz))), (3, .int (nI iz)), (5, .int (nI (pz + 2 + kz)))]) hx hb dX5_does_110 hl (by decide) rfl (fun ls hl => ?_)
            refine lv_iinc (v := nI (pz + 2 + (kz + 1))) (lv' := [(5, .int (nI (pz + 2 + (kz + 1)))), (4, .int (numN tx lw (pz + 2) (kz + 1))), (0, .ref (ad n)), (1, .int (nI pz)), (2, .int (nI (pz + 2 + cz))), (3, .int (nI iz))]) hx hb dX5_does_112 hl (k := 5) rfl (z_inc _) (by decide) rfl (fun ls hl => ?_)
            refine lv_goto (tgt := 92) hx hb dX5_does_115 (by decide) ?_
            exact ih_92 (kz + 1) hk2 (by omega) _ _ _ hP hS  (lv_sub hl [2, 3, 4, 5, 1, 0] rfl)
      exact lp_92 _ 0 (Nat.zero_le _) (Nat.lt_succ_self _) _ _ _ hP hS  (lv_sub hl [3, 4, 5, 2, 1, 0] rfl)
    · refine lv_aload_n hx hb dX5_does_62 rfl (lv_at hl 1 rfl) ?_
      refine lv_iload_n hx hb dX5_does_63 rfl (lv_at hl 0 rfl) ?_
      refine lv_aload_n hx hb dX5_does_64 rfl (lv_at hl 1 rfl) ?_
      refine lv_iload_n hx hb dX5_does_65 rfl (lv_at hl 2 rfl) ?_
      refine lv_iconst (v := 2) hx hb dX5_does_66 (by decide) ?_
      refine lv_iadd hx hb dX5_does_67 ?_
      refine z_topi (y := nI (pz + 2)) (nI_add pz 2) ?_
      refine z_Vi_eq (As := [.int (nI (pz + 2))]) (rest := [.int (nI iz), .ref (ad n)]) C0 hP hS hl.1 (m_X5_digitAt l _ hM hln (by omega)) lk_X5_110 hM.n0 hM.o rfl rfl (Nat.le_of_ble_eq_true rfl) ⟨Nat.le_of_ble_eq_true rfl, Nat.le_of_ble_eq_true rfl⟩ rfl rfl ⟨Nat.zero_le _, Nat.zero_le _⟩ dX5_does_68 (fun H locs hP hS => ?_)
      refine z_topi (y := nI jz) ((k126 c_59).1) ?_
      refine z_Vi_mo (As := [.int (nI iz), .int (nI jz)]) (rest := []) C0 hP hS hl.1 (m_X5_slips l _ hM hi (k126 c_59).2) lk_X5_95 hM.n0 hM.o rfl rfl (Nat.le_of_ble_eq_true rfl) ⟨Nat.le_of_ble_eq_true rfl, Nat.le_of_ble_eq_true rfl⟩ rfl rfl ⟨Nat.zero_le _, Nat.zero_le _⟩ dX5_does_71 (fun r_71 g_3 H locs hP hS hp => ?_)
      obtain ⟨hr_71, hM, hF1⟩ := hp
      subst hr_71
      have hFr := hFr.tr (hF1.mono (by intro x9 hx9; first | (dsimp only [zOne, zRg, zCl] at hx9 ⊢; omega) | (dsimp only at hx9 ⊢; omega) | omega))
      refine lv_iconst (v := (-1)) hx hb dX5_does_74 (by decide) ?_
      refine lv_icmp_eq (tgt := 82) hx hb dX5_does_75 (by decide) (fun c_75 => ?_) (fun c_75 => ?_)
      · refine lv_iconst (v := 0) hx hb dX5_does_82 (by decide) ?_
        exact z_zret C0 hP hS hr rfl (⟨(show 0 = doneI sx (chF tx lw (pz + 1)) iz jz (numN tx lw (pz + 2) cz) from ((if_neg c_15).trans ((if_pos c_59).trans (if_pos c_75))).symm), ⟨_, _, by unfold ordM; rw [show (if chF tx lw (pz + 1) = 62 then addS sx iz jz else if chF tx lw (pz + 1) = 126 then slipS sx iz jz else tieS sx iz (numN tx lw (pz + 2) cz)) = _ from (if_neg c_15).trans (if_pos c_59)]; exact hM⟩, hFr⟩) dX5_does_83
      · refine lv_iconst (v := 1) hx hb dX5_does_78 (by decide) ?_
        refine lv_goto (tgt := 83) hx hb dX5_does_79 (by decide) ?_
        exact z_zret C0 hP hS hr rfl (⟨(show 1 = doneI sx (chF tx lw (pz + 1)) iz jz (numN tx lw (pz + 2) cz) from ((if_neg c_15).trans ((if_pos c_59).trans (if_neg c_75))).symm), ⟨_, _, by unfold ordM; rw [show (if chF tx lw (pz + 1) = 62 then addS sx iz jz else if chF tx lw (pz + 1) = 126 then slipS sx iz jz else tieS sx iz (numN tx lw (pz + 2) cz)) = _ from (if_neg c_15).trans (if_pos c_59)]; exact hM⟩, hFr⟩) dX5_does_83
  · refine lv_aload_n hx hb dX5_does_18 rfl (lv_at hl 1 rfl) ?_
    refine lv_iload_n hx hb dX5_does_19 rfl (lv_at hl 0 rfl) ?_
    refine lv_aload_n hx hb dX5_does_20 rfl (lv_at hl 1 rfl) ?_
    refine lv_iload_n hx hb dX5_does_21 rfl (lv_at hl 2 rfl) ?_
    refine lv_iconst (v := 2) hx hb dX5_does_22 (by decide) ?_
    refine lv_iadd hx hb dX5_does_23 ?_
    refine z_topi (y := nI (pz + 2)) (nI_add pz 2) ?_
    refine z_Vi_eq (As := [.int (nI (pz + 2))]) (rest := [.int (nI iz), .ref (ad n)]) C0 hP hS hl.1 (m_X5_digitAt l _ hM hln (by omega)) lk_X5_110 hM.n0 hM.o rfl rfl (Nat.le_of_ble_eq_true rfl) ⟨Nat.le_of_ble_eq_true rfl, Nat.le_of_ble_eq_true rfl⟩ rfl rfl ⟨Nat.zero_le _, Nat.zero_le _⟩ dX5_does_24 (fun H locs hP hS => ?_)
    refine z_topi (y := nI jz) ((k62 c_15).1) ?_
    refine z_Vi_mo (As := [.int (nI iz), .int (nI jz)]) (rest := []) C0 hP hS hl.1 (m_X5_adds l _ hM hi (k62 c_15).2 hpc) lk_X5_92 hM.n0 hM.o rfl rfl (Nat.le_of_ble_eq_true rfl) ⟨Nat.le_of_ble_eq_true rfl, Nat.le_of_ble_eq_true rfl⟩ rfl rfl ⟨Nat.zero_le _, Nat.zero_le _⟩ dX5_does_27 (fun r_27 g_4 H locs hP hS hp => ?_)
    obtain ⟨hr_27, ⟨kn1, lo1, hM⟩, hF1⟩ := hp
    subst hr_27
    have hFr := hFr.tr (hF1.mono (by intro x9 hx9; first | (dsimp only [zOne, zRg, zCl] at hx9 ⊢; omega) | (dsimp only at hx9 ⊢; omega) | omega))
    refine lv_istore (lv' := [(4, .int (addR sx iz jz)), (3, .int (nI iz)), (0, .ref (ad n)), (1, .int (nI pz)), (2, .int (nI (pz + 2 + cz)))]) hx hb dX5_does_30 hl (by decide) rfl (fun ls hl => ?_)
    refine lv_iload hx hb dX5_does_32 (lv_at hl 0 rfl) ?_
    refine lv_if_eq (tgt := 44) hx hb dX5_does_34 (by decide) (fun c_34 => ?_) (fun c_34 => ?_)
    · refine lv_iconst (v := 1) hx hb dX5_does_44 (by decide) ?_
      refine lv_goto (tgt := 49) hx hb dX5_does_45 (by decide) ?_
      exact z_zret C0 hP hS hr rfl (⟨(show 1 = doneI sx (chF tx lw (pz + 1)) iz jz (numN tx lw (pz + 2) cz) from ((if_pos c_15).trans (if_pos (by first | exact Or.inl c_34 | exact Or.inr c_41))).symm), ⟨_, _, by unfold ordM; rw [show (if chF tx lw (pz + 1) = 62 then addS sx iz jz else if chF tx lw (pz + 1) = 126 then slipS sx iz jz else tieS sx iz (numN tx lw (pz + 2) cz)) = _ from if_pos c_15]; exact hM⟩, hFr⟩) dX5_does_49
    · refine lv_iload hx hb dX5_does_37 (lv_at hl 0 rfl) ?_
      refine lv_bipush (v := 10) hx hb dX5_does_39 (by decide) ?_
      refine lv_icmp_lt (tgt := 48) hx hb dX5_does_41 (by decide) (fun c_41 => ?_) (fun c_41 => ?_)
      · refine lv_iconst (v := 0) hx hb dX5_does_48 (by decide) ?_
        exact z_zret C0 hP hS hr rfl (⟨(show 0 = doneI sx (chF tx lw (pz + 1)) iz jz (numN tx lw (pz + 2) cz) from ((if_pos c_15).trans (if_neg (fun q => q.elim c_34 (fun q => q c_41)))).symm), ⟨_, _, by unfold ordM; rw [show (if chF tx lw (pz + 1) = 62 then addS sx iz jz else if chF tx lw (pz + 1) = 126 then slipS sx iz jz else tieS sx iz (numN tx lw (pz + 2) cz)) = _ from if_pos c_15]; exact hM⟩, hFr⟩) dX5_does_49
      · refine lv_iconst (v := 1) hx hb dX5_does_44 (by decide) ?_
        refine lv_goto (tgt := 49) hx hb dX5_does_45 (by decide) ?_
        exact z_zret C0 hP hS hr rfl (⟨(show 1 = doneI sx (chF tx lw (pz + 1)) iz jz (numN tx lw (pz + 2) cz) from ((if_pos c_15).trans (if_pos (by first | exact Or.inl c_34 | exact Or.inr c_41))).symm), ⟨_, _, by unfold ordM; rw [show (if chF tx lw (pz + 1) = 62 then addS sx iz jz else if chF tx lw (pz + 1) = 126 then slipS sx iz jz else tieS sx iz (numN tx lw (pz + 2) cz)) = _ from if_pos c_15]; exact hM⟩, hFr⟩) dX5_does_49
