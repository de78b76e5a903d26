set_option maxHeartbeats 4000000 in
set_option maxRecDepth 100000 in
theorem m_X5_run (l : Launch) {D : va_G} {cy : Nat → ClassId} {K : Nat} {ad : Nat → Nat} {g : Nat → va_E} (sz : Nat) {n : Nat} {sx az so ik sv tx kn lo : Nat → Int32} {th : Int32} {dg : Int64} {mz lw : Nat} (hM : isM cy K ad g n sx az so ik sv tx kn lo th ((nI mz)) ((nI lw)) dg) (hmz : mz ≤ 6) (hln : lw ≤ 60) (hpc : pcOK sx) (hno : wrR tx lw (lw + 1) 0 = none) : Met l yX5_run (zs yX5_run cX5_run 5 (some .int)) ({ frames := 9, cells := 0, slots := 0, locals := 208 } : Room) (va_Pc [.ref (ad n)] (zIn D cy K ad g sz)) (va_Qi (fun r g1 => r = nI (rnF tx lw (lw + 1) 0 sx).2 ∧ (∃ kn lo : Nat → Int32, isM cy K ad g1 n ((rnF tx lw (lw + 1) 0 sx).1) az so ik (svS sv mz sx) tx kn lo 0 (nI (svM mz + 1)) 0 dg) ∧ zFr (zRg n (n + 9)) g g1) (zOut D cy K ad sz) (zA K ad sz)) 0 0 (zA K ad sz) := by
  refine z_met (by decide) (Nat.le_of_ble_eq_true rfl) (fun p e s m below meth c ls hsz hl C0 hr hnm hP hS => ?_)
  subst hsz
  have hl : lv_has ls 5 [(0, .ref (ad n))] := hl
  have hx := C0.1; have hb := C0.2.1; have hown := C0.2.2.2.1; have hts := C0.2.2.2.2.1
  have hFr : zFr (zRg n (n + 9)) g g := zFr.rf
  refine lv_aload_n hx hb dX5_run_0 rfl (lv_at hl 0 rfl) ?_
  refine lv_aload_n hx hb dX5_run_1 rfl (lv_at hl 0 rfl) ?_
  refine z_Vi_eq (As := []) (rest := [.ref (ad n)]) C0 hP hS hl.1 (m_X5_wrong l _ hM hln) lk_X5_119 hM.n0 hM.o rfl rfl (Nat.le_of_ble_eq_true rfl) ⟨Nat.le_of_ble_eq_true rfl, Nat.le_of_ble_eq_true rfl⟩ rfl rfl ⟨Nat.zero_le _, Nat.zero_le _⟩ dX5_run_2 (fun H locs hP hS => ?_)
  refine z_topi (y := (-1)) (by rw [hno]; rfl) ?_
  refine lv_iconst (v := (-1)) hx hb dX5_run_5 (by decide) ?_
  refine lv_icmp_ne (tgt := 13) hx hb dX5_run_6 (by decide) (fun c_6 => absurd rfl c_6) (fun c_6 => ?_)
  refine lv_iconst (v := 0) hx hb dX5_run_9 (by decide) ?_
  refine lv_goto (tgt := 14) hx hb dX5_run_10 (by decide) ?_
  refine z_Vi_mo (As := [.int 0]) (rest := []) C0 hP hS hl.1 (m_X5_holds l _ hM) lk_X5_86 hM.n0 hM.o rfl rfl (Nat.le_of_ble_eq_true rfl) ⟨Nat.le_of_ble_eq_true rfl, Nat.le_of_ble_eq_true rfl⟩ rfl rfl ⟨Nat.zero_le _, Nat.zero_le _⟩ dX5_run_14 (fun r_14 g_1 H locs hP hS hp => ?_)
  obtain ⟨hr_14, hM, hF1⟩ := hp
  subst hr_14
  have hFr := hFr.tr (hF1.mono (by intro x9 hx9; first | (dsimp only [zOne, zRg, zCl] at hx9 ⊢; omega) | (dsimp only at hx9 ⊢; omega) | omega))
  refine z_topi (y := 1) (if_pos rfl) ?_
  refine lv_if_ne (tgt := 22) hx hb dX5_run_17 (by decide) (fun c_17 => ?_) (fun c_17 => absurd c_17 (by decide))
  refine lv_aload_n hx hb dX5_run_22 rfl (lv_at hl 0 rfl) ?_
  refine z_Vv_mo (As := []) (rest := []) C0 hP hS hl.1 (m_X5_save l _ hM hmz) lk_X5_89 hM.n0 hM.o rfl rfl (Nat.le_of_ble_eq_true rfl) ⟨Nat.le_of_ble_eq_true rfl, Nat.le_of_ble_eq_true rfl⟩ rfl rfl ⟨Nat.zero_le _, Nat.zero_le _⟩ dX5_run_23 (fun g_2 H locs hP hS hp => ?_)
  obtain ⟨hM, hF1⟩ := hp
  have hFr := hFr.tr (hF1.mono (by intro x9 hx9; first | (dsimp only [zOne, zRg, zCl] at hx9 ⊢; omega) | (dsimp only at hx9 ⊢; omega) | omega))
  refine lv_iconst (v := (nI 0)) hx hb dX5_run_26 (by decide) ?_
  refine lv_istore_n (lv' := [(1, .int (nI 0)), (0, .ref (ad n))]) hx hb dX5_run_27 rfl hl (by decide) rfl (fun ls hl => ?_)
  refine lv_iconst (v := (nI 0)) hx hb dX5_run_28 (by decide) ?_
  refine lv_istore_n (lv' := [(2, .int (nI 0)), (1, .int (nI 0)), (0, .ref (ad n))]) hx hb dX5_run_29 rfl hl (by decide) rfl (fun ls hl => ?_)
  refine lv_iconst (v := 1) hx hb dX5_run_30 (by decide) ?_
  refine lv_istore_n (lv' := [(3, .int 1), (2, .int (nI 0)), (1, .int (nI 0)), (0, .ref (ad n))]) hx hb dX5_run_31 rfl hl (by decide) rfl (fun ls hl => ?_)
  have lp_32 : ∀ (N : Nat) (pz nz fz : Nat) (sc kn lo : Nat → Int32) (hpS : pcOK sc) (hp0 : pz ≤ lw + 8) (hW : pz < lw → wrR tx lw fz pz = none ∧ lw < pz + fz) (hR1 : (rnF tx lw fz pz sc).1 = (rnF tx lw (lw + 1) 0 sx).1) (hR2 : nz + (rnF tx lw fz pz sc).2 = (rnF tx lw (lw + 1) 0 sx).2), lw + 20 - pz < N → ∀ (g_3 : Nat → va_E) (H : Heap) (locs : List Loc) (ls : Array Slot), zP D K ad g_3 (zA K ad s.heap.size) H → va_S (zA K ad s.heap.size) s.heap H locs → isM cy K ad g_3 n sc az so ik ((svS sv mz sx)) tx kn lo 0 ((nI (svM mz + 1))) ((nI lw)) dg → zFr (zRg n (n + 9)) g g_3 → lv_has ls 5 [(0, .ref (ad n)), (1, .int (nI nz)), (2, .int (nI pz)), (3, .int 1)] → W p l e ({ frames := 9, cells := 0, slots := 0, locals := 208 } : Room) s m [.ref (ad n)].toArray below meth c H locs 0 0 (MQ below (va_Qi (fun r g1 => r = nI (rnF tx lw (lw + 1) 0 sx).2 ∧ (∃ kn lo : Nat → Int32, isM cy K ad g1 n ((rnF tx lw (lw + 1) 0 sx).1) az so ik (svS sv mz sx) tx kn lo 0 (nI (svM mz + 1)) 0 dg) ∧ zFr (zRg n (n + 9)) g g1) (zOut D cy K ad s.heap.size) (zA K ad s.heap.size)) [.ref (ad n)].toArray s 0 0 (zA K ad s.heap.size)) (F0 m 32 ls []) := by
    intro N
    induction N with
    | zero => intro pz nz fz sc kn lo hpS hp0 hW hR1 hR2 hN; exact absurd hN (Nat.not_lt_zero _)
    | succ N ih_32 =>
      intro pz nz fz sc kn lo hpS hp0 hW hR1 hR2 hN g_3 H locs ls hP hS hM hFr hl
      refine lv_iload_n hx hb dX5_run_32 rfl (lv_at hl 3 rfl) ?_
      refine lv_if_eq (tgt := 79) hx hb dX5_run_33 (by decide) (fun c_33 => absurd c_33 (by decide)) (fun c_33 => ?_)
      refine lv_iload_n hx hb dX5_run_36 rfl (lv_at hl 2 rfl) ?_
      refine lv_aload_n hx hb dX5_run_37 rfl (lv_at hl 0 rfl) ?_
      refine z_get C0 hP hM.n0 hM.o fd_X5_104 rfl dX5_run_38 ?_
      refine lv_icmp_ge (tgt := 79) hx hb dX5_run_41 (by decide) (fun c_41 => ?_) (fun c_41 => ?_)
      · have hlt : ¬ pz < lw := by have := z_ge_t c_41 (by omega) (by omega); omega
        rw [rnF_end hlt] at hR1 hR2
        refine lv_aload_n hx hb dX5_run_79 rfl (lv_at hl 0 rfl) ?_
        refine lv_iconst (v := 0) hx hb dX5_run_80 (by decide) ?_
        refine zp_M_ln C0 hP hS hM hFr (by first | rfl | (dsimp only [zOne, zRg, zCl]; omega) | (dsimp only; omega) | omega) fp_X5_104 dX5_run_81 (fun g_4 H locs hP hS hM hFr hF1 => ?_)
        refine lv_iload_n hx hb dX5_run_84 rfl (lv_at hl 1 rfl) ?_
        exact z_iret C0 hP hS hr (⟨by rw [← hR2]; rfl, ⟨_, _, by rw [← hR1]; exact hM⟩, hFr⟩) dX5_run_85
      · have hlt : pz < lw := z_ge_f c_41 (by omega) (by omega)
        refine lv_aload_n hx hb dX5_run_44 rfl (lv_at hl 0 rfl) ?_
        refine lv_iload_n hx hb dX5_run_45 rfl (lv_at hl 2 rfl) ?_
        refine z_Vi_eq (As := [.int (nI pz)]) (rest := []) C0 hP hS hl.1 (m_X5_behindOrder l _ hM hln (by omega)) lk_X5_116 hM.n0 hM.o rfl rfl (Nat.le_of_ble_eq_true rfl) ⟨Nat.le_of_ble_eq_true rfl, Nat.le_of_ble_eq_true rfl⟩ rfl rfl ⟨Nat.zero_le _, Nat.zero_le _⟩ dX5_run_46 (fun H locs hP hS => ?_)
        obtain ⟨f9, hf9⟩ : ∃ f9, fz = f9 + 1 := ⟨fz - 1, by have := (hW hlt).2; omega⟩
        subst hf9
        cases hB : boR tx lw pz with
        | inr e9 => exact absurd ((wrR_e hB).symm.trans (hW hlt).1) (by simp)
        | inl b9 =>
          refine z_topi (y := nI b9) rfl ?_
          have hb9 := boR_le hB
          obtain ⟨o1, o2, o3⟩ := boR_ok hB
          have hi9 := dgNat (b := 6) o1 (by decide)
          have k62 : chF tx lw (pz + 1) = 62 → dgF tx lw (pz + 2) = nI (oI tx lw (pz + 2)) ∧ oI tx lw (pz + 2) < 7 := fun q => dgNat (b := 6) (o2 q) (by decide)
          have k126 : chF tx lw (pz + 1) = 126 → dgF tx lw (pz + 2) = nI (oI tx lw (pz + 2)) ∧ oI tx lw (pz + 2) < 6 := fun q => dgNat (b := 5) (o3 q) (by decide)
          have hW1 := (wrR_b hB).symm.trans (hW hlt).1
          have hRb := rnF_b (f := f9) (st := sc) hlt hB
          rw [hRb] at hR1 hR2
          obtain ⟨cz, hcz⟩ : ∃ cz, b9 = pz + 2 + cz := ⟨b9 - (pz + 2), by omega⟩
          subst hcz
          have ecz : pz + 2 + cz - (pz + 2) = cz := Nat.add_sub_cancel_left _ _
          have hS9 : oS tx lw pz (pz + 2 + cz) sc = ordM sc (chF tx lw (pz + 1)) (oI tx lw pz) (oI tx lw (pz + 2)) (numN tx lw (pz + 2) cz) := by unfold oS; rw [ecz]
          have hD9 : oD tx lw pz (pz + 2 + cz) sc = doneI sc (chF tx lw (pz + 1)) (oI tx lw pz) (oI tx lw (pz + 2)) (numN tx lw (pz + 2) cz) := by unfold oD; rw [ecz]
          rw [hS9, hD9] at hR1 hR2
          have hW2 : pz + 2 + cz + 1 < lw → wrR tx lw f9 (pz + 2 + cz + 1) = none ∧ lw < pz + 2 + cz + 1 + f9 := fun q => by
            have h8 := (hW hlt).2
            rw [if_pos (show pz + 2 + cz < lw by omega)] at hW1
            by_cases c8 : tx (pz + 2 + cz) = 59
            · rw [if_pos c8] at hW1; exact ⟨hW1, by omega⟩
            · rw [if_neg c8] at hW1; cases hW1
          refine lv_istore (lv' := [(4, .int (nI (pz + 2 + cz))), (0, .ref (ad n)), (1, .int (nI nz)), (2, .int (nI pz)), (3, .int 1)]) hx hb dX5_run_49 hl (by decide) rfl (fun ls hl => ?_)
          refine lv_aload_n hx hb dX5_run_51 rfl (lv_at hl 1 rfl) ?_
          refine lv_iload_n hx hb dX5_run_52 rfl (lv_at hl 3 rfl) ?_
          refine lv_iload hx hb dX5_run_53 (lv_at hl 0 rfl) ?_
          refine z_Vi_mo (As := [.int (nI pz), .int (nI (pz + 2 + cz))]) (rest := []) C0 hP hS hl.1 (m_X5_does l _ hM hln (by omega) hpS hi9.2 hi9.1 k62 k126 (by omega)) lk_X5_123 hM.n0 hM.o rfl rfl (Nat.le_of_ble_eq_true rfl) ⟨Nat.le_of_ble_eq_true rfl, Nat.le_of_ble_eq_true rfl⟩ rfl rfl ⟨Nat.zero_le _, Nat.zero_le _⟩ dX5_run_55 (fun r_55 g_5 H locs hP hS hp => ?_)
          obtain ⟨hr_55, ⟨kn1, lo1, hM⟩, hF1⟩ := hp
          subst hr_55
          have hFr := hFr.tr (hF1.mono (by intro x9 hx9; first | (dsimp only [zOne, zRg, zCl] at hx9 ⊢; omega) | (dsimp only at hx9 ⊢; omega) | omega))
          rcases doneI_01 sc (chF tx lw (pz + 1)) (oI tx lw pz) (oI tx lw (pz + 2)) (numN tx lw (pz + 2) cz) with hd9 | hd9
          · refine z_topi (y := 1) hd9 ?_
            rw [if_pos hd9] at hR1 hR2
            have hR3 := hR1
            have hR4 : nz + 1 + (rnF tx lw f9 (pz + 2 + cz + 1) (ordM sc (chF tx lw (pz + 1)) (oI tx lw pz) (oI tx lw (pz + 2)) (numN tx lw (pz + 2) cz))).2 = (rnF tx lw (lw + 1) 0 sx).2 := by rw [← hR2]; show nz + 1 + _ = nz + (_ + 1); omega
            refine lv_istore_n (lv' := [(3, .int 1), (4, .int (nI (pz + 2 + cz))), (0, .ref (ad n)), (1, .int (nI nz)), (2, .int (nI pz))]) hx hb dX5_run_58 rfl hl (by decide) rfl (fun ls hl => ?_)
            refine lv_iload_n hx hb dX5_run_59 rfl (lv_at hl 3 rfl) ?_
            refine lv_iload_n hx hb dX5_run_60 rfl (lv_at hl 0 rfl) ?_
            refine lv_if_eq (tgt := 68) hx hb dX5_run_61 (by decide) (fun c_61 => absurd c_61 (by decide)) (fun c_61 => ?_)
            refine lv_iconst (v := 1) hx hb dX5_run_64 (by decide) ?_
            refine lv_goto (tgt := 69) hx hb dX5_run_65 (by decide) ?_
            refine lv_iadd hx hb dX5_run_69 ?_
            refine z_topi (y := nI (nz + 1)) (nI_1 _) ?_
            refine lv_istore_n (lv' := [(1, .int (nI (nz + 1))), (3, .int 1), (4, .int (nI (pz + 2 + cz))), (0, .ref (ad n)), (2, .int (nI pz))]) hx hb dX5_run_70 rfl hl (by decide) rfl (fun ls hl => ?_)
            refine lv_iload hx hb dX5_run_71 (lv_at hl 2 rfl) ?_
            refine lv_iconst (v := 1) hx hb dX5_run_73 (by decide) ?_
            refine lv_iadd hx hb dX5_run_74 ?_
            refine z_topi (y := nI (pz + 2 + cz + 1)) (nI_1 _) ?_
            refine lv_istore_n (lv' := [(2, .int (nI (pz + 2 + cz + 1))), (1, .int (nI (nz + 1))), (3, .int 1), (4, .int (nI (pz + 2 + cz))), (0, .ref (ad n))]) hx hb dX5_run_75 rfl hl (by decide) rfl (fun ls hl => ?_)
            refine lv_goto (tgt := 32) hx hb dX5_run_76 (by decide) ?_
            exact ih_32 (pz + 2 + cz + 1) (nz + 1) f9 (ordM sc (chF tx lw (pz + 1)) (oI tx lw pz) (oI tx lw (pz + 2)) (numN tx lw (pz + 2) cz)) kn1 lo1 (pcOK_ordM hpS hi9.2 (fun q => (k62 q).2) (fun q => (k126 q).2)) (by omega) hW2 hR3 hR4 (by omega) _ _ _ _ hP hS hM hFr (lv_sub hl [4, 1, 0, 2] rfl)
          · refine z_topi (y := 0) hd9 ?_
            rw [if_neg (fun q => by rw [hd9] at q; exact absurd q (by decide))] at hR1 hR2
            refine lv_istore_n (lv' := [(3, .int 0), (4, .int (nI (pz + 2 + cz))), (0, .ref (ad n)), (1, .int (nI nz)), (2, .int (nI pz))]) hx hb dX5_run_58 rfl hl (by decide) rfl (fun ls hl => ?_)
            refine lv_iload_n hx hb dX5_run_59 rfl (lv_at hl 3 rfl) ?_
            refine lv_iload_n hx hb dX5_run_60 rfl (lv_at hl 0 rfl) ?_
            refine lv_if_eq (tgt := 68) hx hb dX5_run_61 (by decide) (fun c_61 => ?_) (fun c_61 => absurd c_61 (by decide))
            refine lv_iconst (v := 0) hx hb dX5_run_68 (by decide) ?_
            refine lv_iadd hx hb dX5_run_69 ?_
            refine z_topi (y := nI nz) (Int32.add_zero _) ?_
            refine lv_istore_n (lv' := [(1, .int (nI nz)), (3, .int 0), (4, .int (nI (pz + 2 + cz))), (0, .ref (ad n)), (2, .int (nI pz))]) hx hb dX5_run_70 rfl hl (by decide) rfl (fun ls hl => ?_)
            refine lv_iload hx hb dX5_run_71 (lv_at hl 2 rfl) ?_
            refine lv_iconst (v := 1) hx hb dX5_run_73 (by decide) ?_
            refine lv_iadd hx hb dX5_run_74 ?_
            refine z_topi (y := nI (pz + 2 + cz + 1)) (nI_1 _) ?_
            refine lv_istore_n (lv' := [(2, .int (nI (pz + 2 + cz + 1))), (1, .int (nI nz)), (3, .int 0), (4, .int (nI (pz + 2 + cz))), (0, .ref (ad n))]) hx hb dX5_run_75 rfl hl (by decide) rfl (fun ls hl => ?_)
            refine lv_goto (tgt := 32) hx hb dX5_run_76 (by decide) ?_
            refine lv_iload_n hx hb dX5_run_32 rfl (lv_at hl 2 rfl) ?_
            refine lv_if_eq (tgt := 79) hx hb dX5_run_33 (by decide) (fun c_33 => ?_) (fun c_33 => absurd c_33 (by decide))
            refine lv_aload_n hx hb dX5_run_79 rfl (lv_at hl 4 rfl) ?_
            refine lv_iconst (v := 0) hx hb dX5_run_80 (by decide) ?_
            refine zp_M_ln C0 hP hS hM hFr (by first | rfl | (dsimp only [zOne, zRg, zCl]; omega) | (dsimp only; omega) | omega) fp_X5_104 dX5_run_81 (fun g_6 H locs hP hS hM hFr hF1 => ?_)
            refine lv_iload_n hx hb dX5_run_84 rfl (lv_at hl 1 rfl) ?_
            exact z_iret C0 hP hS hr (⟨by rw [← hR2]; rfl, ⟨_, _, by rw [← hR1]; exact hM⟩, hFr⟩) dX5_run_85
  exact lp_32 _ 0 0 (lw + 1) sx kn lo hpc (by omega) (fun _ => ⟨hno, by omega⟩) rfl (Nat.zero_add _) (Nat.lt_succ_self _) _ _ _ _ hP hS hM hFr (lv_sub hl [3, 2, 1, 0] rfl)
set_option maxHeartbeats 4000000 in
set_option maxRecDepth 100000 in
theorem m_X5_runb1 (l : Launch) {D : va_G} {cy : Nat → ClassId} {K : Nat} {ad : Nat → Nat} {g : Nat → va_E} (sz : Nat) {n : Nat} {sx az so ik sv tx kn lo : Nat → Int32} {th sm : Int32} {dg : Int64} {lw e9 : Nat} (hM : isM cy K ad g n sx az so ik sv tx kn lo th sm ((nI lw)) dg) (hln : lw ≤ 60) (hse : wrR tx lw (lw + 1) 0 = some e9) : Met l yX5_run (zs yX5_run cX5_run 5 (some .int)) ({ frames := 9, cells := 0, slots := 0, locals := 208 } : Room) (va_Pc [.ref (ad n)] (zIn D cy K ad g sz)) (va_Qi (fun r g1 => r = 0 ∧ isM cy K ad g1 n sx az so ik sv tx kn lo 1 sm (nI lw) dg ∧ zFr (zRg n (n + 9)) g g1) (zOut D cy K ad sz) (zA K ad sz)) 0 0 (zA K ad sz) := by
  refine z_met (by decide) (Nat.le_of_ble_eq_true rfl) (fun p e s m below meth c ls hsz hl C0 hr hnm hP hS => ?_)
  subst hsz
  have hl : lv_has ls 5 [(0, .ref (ad n))] := hl
  have hx := C0.1; have hb := C0.2.1; have hown := C0.2.2.2.1; have hts := C0.2.2.2.2.1
  have hFr : zFr (zRg n (n + 9)) g g := zFr.rf
  refine lv_aload_n hx hb dX5_run_0 rfl (lv_at hl 0 rfl) ?_
  refine lv_aload_n hx hb dX5_run_1 rfl (lv_at hl 0 rfl) ?_
  refine z_Vi_eq (As := []) (rest := [.ref (ad n)]) C0 hP hS hl.1 (m_X5_wrong l _ hM hln) lk_X5_119 hM.n0 hM.o rfl rfl (Nat.le_of_ble_eq_true rfl) ⟨Nat.le_of_ble_eq_true rfl, Nat.le_of_ble_eq_true rfl⟩ rfl rfl ⟨Nat.zero_le _, Nat.zero_le _⟩ dX5_run_2 (fun H locs hP hS => ?_)
  refine z_topi (y := nI e9) (by rw [hse]; rfl) ?_
  refine lv_iconst (v := (-1)) hx hb dX5_run_5 (by decide) ?_
  refine lv_icmp_ne (tgt := 13) hx hb dX5_run_6 (by decide) (fun c_6 => ?_) (fun c_6 => absurd (wrV_m1 (o := some e9) c_6 (fun e8 he8 => by cases he8; have := wrR_lt (Nat.zero_le _) hse; omega)) (by simp))
  refine lv_iconst (v := 1) hx hb dX5_run_13 (by decide) ?_
  refine z_Vi_mo (As := [.int 1]) (rest := []) C0 hP hS hl.1 (m_X5_holds l _ hM) lk_X5_86 hM.n0 hM.o rfl rfl (Nat.le_of_ble_eq_true rfl) ⟨Nat.le_of_ble_eq_true rfl, Nat.le_of_ble_eq_true rfl⟩ rfl rfl ⟨Nat.zero_le _, Nat.zero_le _⟩ dX5_run_14 (fun r_14 g_1 H locs hP hS hp => ?_)
  obtain ⟨hr_14, hM, hF1⟩ := hp
  subst hr_14
  have hFr := hFr.tr (hF1.mono (by intro x9 hx9; first | (dsimp only [zOne, zRg, zCl] at hx9 ⊢; omega) | (dsimp only at hx9 ⊢; omega) | omega))
  refine z_topi (y := 0) (if_neg (by decide)) ?_
  refine lv_if_ne (tgt := 22) hx hb dX5_run_17 (by decide) (fun c_17 => absurd c_17 (by decide)) (fun c_17 => ?_)
  refine lv_iconst (v := 0) hx hb dX5_run_20 (by decide) ?_
  exact z_iret C0 hP hS hr (⟨rfl, hM, hFr⟩) dX5_run_21
