set_option maxHeartbeats 4000000 in
set_option maxRecDepth 100000 in
theorem m_X1_copyFrom (l : Launch) {D : va_G} {cy : Nat → ClassId} {K : Nat} {ad : Nat → Nat} {g : Nat → va_E} (sz : Nat) {n n2 : Nat} {st st2 : Nat → Int32} (hH : isH cy K ad g n st) (hB : isH cy K ad g n2 st2) (hd : n + 30 ≤ n2 ∨ n2 + 30 ≤ n) : Met l yX1_copyFrom (zs yX1_copyFrom cX1_copyFrom 3 none) ({ frames := 2, cells := 0, slots := 0, locals := 81 } : Room) (va_Pc [.ref (ad n), .ref (ad n2)] (zIn D cy K ad g sz)) (va_Qv (fun g1 => isH cy K ad g1 n st2 ∧ zFr (zRg n (n + 30)) g g1) (zOut D cy K ad sz) (zA K ad sz)) 0 0 (zA K ad sz) := by
  refine z_met (by decide) (Nat.le_of_ble_eq_true rfl) (fun p e s m below meth c ls hsz hl C0 hr hnm hP hS => ?_)
  subst hsz
  have hl : lv_has ls 3 [(0, .ref (ad n)), (1, .ref (ad n2))] := hl
  have hx := C0.1; have hb := C0.2.1; have hown := C0.2.2.2.1; have hts := C0.2.2.2.2.1
  have hFr : zFr (zRg n (n + 30)) g g := zFr.rf
  refine lv_iconst (v := 0) hx hb dX1_copyFrom_0 (by decide) ?_
  refine lv_istore_n (lv' := [(2, .int 0), (0, .ref (ad n)), (1, .ref (ad n2))]) hx hb dX1_copyFrom_1 rfl hl (by decide) rfl (fun ls hl => ?_)
  have lp_2 : ∀ (N : Nat) (kz : Nat) (hk : kz ≤ 7), 7 - kz < N → ∀ (g_1 : Nat → va_E) (H : Heap) (locs : List Loc) (ls : Array Slot), zP D K ad g_1 (zA K ad s.heap.size) H → va_S (zA K ad s.heap.size) s.heap H locs → isH cy K ad g_1 n (mixF st st2 kz) → isH cy K ad g_1 n2 st2 → zFr (zRg n (n + 30)) g g_1 → lv_has ls 3 [(0, .ref (ad n)), (1, .ref (ad n2)), (2, .int (nI kz))] → W p l e ({ frames := 2, cells := 0, slots := 0, locals := 81 } : Room) s m [.ref (ad n), .ref (ad n2)].toArray below meth c H locs 0 0 (MQ below (va_Qv (fun g1 => isH cy K ad g1 n st2 ∧ zFr (zRg n (n + 30)) g g1) (zOut D cy K ad s.heap.size) (zA K ad s.heap.size)) [.ref (ad n), .ref (ad n2)].toArray s 0 0 (zA K ad s.heap.size)) (F0 m 2 ls []) := by
    intro N
    induction N with
    | zero => intro kz hk hN; exact absurd hN (Nat.not_lt_zero _)
    | succ N ih_2 =>
      intro kz hk hN g_1 H locs ls hP hS hH hB hFr hl
      refine lv_iload_n hx hb dX1_copyFrom_2 rfl (lv_at hl 2 rfl) ?_
      refine lv_bipush (v := 7) hx hb dX1_copyFrom_3 (by decide) ?_
      refine lv_icmp_ge (tgt := 29) hx hb dX1_copyFrom_5 (by decide) (fun c_5 => ?_) (fun c_5 => ?_)
      · have hk2 : kz = 7 := by have := z_ge_t (b := 7) c_5 (by omega) (by omega); omega
        subst hk2
        obtain ⟨rw, hG, hrw, hCs⟩ := id hH
        obtain ⟨rw2, hG2, hrw2, hCs2⟩ := id hB
        have hCa : isCa cy K ad g_1 n (mixF st st2 7) := hCs
        refine lv_aload_n hx hb dX1_copyFrom_29 rfl (lv_at hl 0 rfl) ?_
        refine lv_aload_n hx hb dX1_copyFrom_30 rfl (lv_at hl 1 rfl) ?_
        refine z_get C0 hP hG2.n0 hG2.o fd_X1_17 rfl dX1_copyFrom_31 ?_
        refine zp_G_ro C0 hP hS hG hFr (by first | rfl | (dsimp only [zOne, zRg]; omega) | (dsimp only; omega) | omega) fp_X1_17 dX1_copyFrom_34 (fun g_2 H locs hP hS hG hFr hF1 => ?_)
        have hB := hB.kept hF1 (by intro z9 h8 h9; first | (dsimp only [zOne, zRg]; omega) | (dsimp only; omega) | omega)
        have hG2 := hG2.kept hF1 (by first | (dsimp only [zOne, zRg]; omega) | (dsimp only; omega) | omega)
        have hCa := hCa.kept hF1 (by intro z9 h8 h9; first | (dsimp only [zOne, zRg]; omega) | (dsimp only; omega) | omega)
        refine lv_aload_n hx hb dX1_copyFrom_37 rfl (lv_at hl 0 rfl) ?_
        refine lv_aload_n hx hb dX1_copyFrom_38 rfl (lv_at hl 1 rfl) ?_
        refine z_get C0 hP hG2.n0 hG2.o fd_X1_21 rfl dX1_copyFrom_39 ?_
        refine zp_G_kt C0 hP hS hG hFr (by first | rfl | (dsimp only [zOne, zRg]; omega) | (dsimp only; omega) | omega) fp_X1_21 dX1_copyFrom_42 (fun g_3 H locs hP hS hG hFr hF1 => ?_)
        have hB := hB.kept hF1 (by intro z9 h8 h9; first | (dsimp only [zOne, zRg]; omega) | (dsimp only; omega) | omega)
        have hG2 := hG2.kept hF1 (by first | (dsimp only [zOne, zRg]; omega) | (dsimp only; omega) | omega)
        have hCa := hCa.kept hF1 (by intro z9 h8 h9; first | (dsimp only [zOne, zRg]; omega) | (dsimp only; omega) | omega)
        refine lv_aload_n hx hb dX1_copyFrom_45 rfl (lv_at hl 0 rfl) ?_
        refine lv_aload_n hx hb dX1_copyFrom_46 rfl (lv_at hl 1 rfl) ?_
        refine z_get C0 hP hG2.n0 hG2.o fd_X1_24 rfl dX1_copyFrom_47 ?_
        refine zp_G_lt C0 hP hS hG hFr (by first | rfl | (dsimp only [zOne, zRg]; omega) | (dsimp only; omega) | omega) fp_X1_24 dX1_copyFrom_50 (fun g_4 H locs hP hS hG hFr hF1 => ?_)
        have hB := hB.kept hF1 (by intro z9 h8 h9; first | (dsimp only [zOne, zRg]; omega) | (dsimp only; omega) | omega)
        have hG2 := hG2.kept hF1 (by first | (dsimp only [zOne, zRg]; omega) | (dsimp only; omega) | omega)
        have hCa := hCa.kept hF1 (by intro z9 h8 h9; first | (dsimp only [zOne, zRg]; omega) | (dsimp only; omega) | omega)
        refine lv_aload_n hx hb dX1_copyFrom_53 rfl (lv_at hl 0 rfl) ?_
        refine lv_aload_n hx hb dX1_copyFrom_54 rfl (lv_at hl 1 rfl) ?_
        refine z_get C0 hP hG2.n0 hG2.o fd_X1_27 rfl dX1_copyFrom_55 ?_
        refine zp_G_sl C0 hP hS hG hFr (by first | rfl | (dsimp only [zOne, zRg]; omega) | (dsimp only; omega) | omega) fp_X1_27 dX1_copyFrom_58 (fun g_5 H locs hP hS hG hFr hF1 => ?_)
        have hB := hB.kept hF1 (by intro z9 h8 h9; first | (dsimp only [zOne, zRg]; omega) | (dsimp only; omega) | omega)
        have hG2 := hG2.kept hF1 (by first | (dsimp only [zOne, zRg]; omega) | (dsimp only; omega) | omega)
        have hCa := hCa.kept hF1 (by intro z9 h8 h9; first | (dsimp only [zOne, zRg]; omega) | (dsimp only; omega) | omega)
        refine lv_aload_n hx hb dX1_copyFrom_61 rfl (lv_at hl 0 rfl) ?_
        refine lv_aload_n hx hb dX1_copyFrom_62 rfl (lv_at hl 1 rfl) ?_
        refine z_get C0 hP hG2.n0 hG2.o fd_X1_30 rfl dX1_copyFrom_63 ?_
        refine zp_G_go C0 hP hS hG hFr (by first | rfl | (dsimp only [zOne, zRg]; omega) | (dsimp only; omega) | omega) fp_X1_30 dX1_copyFrom_66 (fun g_6 H locs hP hS hG hFr hF1 => ?_)
        have hB := hB.kept hF1 (by intro z9 h8 h9; first | (dsimp only [zOne, zRg]; omega) | (dsimp only; omega) | omega)
        have hG2 := hG2.kept hF1 (by first | (dsimp only [zOne, zRg]; omega) | (dsimp only; omega) | omega)
        have hCa := hCa.kept hF1 (by intro z9 h8 h9; first | (dsimp only [zOne, zRg]; omega) | (dsimp only; omega) | omega)
        refine lv_aload_n hx hb dX1_copyFrom_69 rfl (lv_at hl 0 rfl) ?_
        refine lv_aload_n hx hb dX1_copyFrom_70 rfl (lv_at hl 1 rfl) ?_
        refine z_get C0 hP hG2.n0 hG2.o fd_X1_33 rfl dX1_copyFrom_71 ?_
        refine zp_G_re C0 hP hS hG hFr (by first | rfl | (dsimp only [zOne, zRg]; omega) | (dsimp only; omega) | omega) fp_X1_33 dX1_copyFrom_74 (fun g_7 H locs hP hS hG hFr hF1 => ?_)
        have hB := hB.kept hF1 (by intro z9 h8 h9; first | (dsimp only [zOne, zRg]; omega) | (dsimp only; omega) | omega)
        have hG2 := hG2.kept hF1 (by first | (dsimp only [zOne, zRg]; omega) | (dsimp only; omega) | omega)
        have hCa := hCa.kept hF1 (by intro z9 h8 h9; first | (dsimp only [zOne, zRg]; omega) | (dsimp only; omega) | omega)
        exact z_vret C0 hP hS hr (⟨hCa.mk hG hrw, hFr⟩) dX1_copyFrom_77
      · have hk2 : kz < 7 := z_ge_f (b := 7) c_5 (by omega) (by omega)
        obtain ⟨rw, hG, hrw, hCs⟩ := id hH
        obtain ⟨kn, lo, pa, hC, h1, h2, h3⟩ := hCs kz hk2
        have hH0 := hH
        obtain ⟨rw2, hG2, hrw2, hCs2⟩ := id hB
        obtain ⟨kn2, lo2, pa2, hD, i1, i2, i3⟩ := hCs2 kz hk2
        refine lv_aload_n hx hb dX1_copyFrom_8 rfl (lv_at hl 0 rfl) ?_
        refine z_get C0 hP hG.n0 hG.o fd_X1_11 rfl dX1_copyFrom_9 ?_
        refine lv_iload_n hx hb dX1_copyFrom_12 rfl (lv_at hl 2 rfl) ?_
        refine z_aald C0 hP hG.n1 hG.a_rw rfl (zIx_nI (by omega) (by decide)) (congrArg va_rf (hrw kz hk2)) dX1_copyFrom_13 ?_
        refine lv_aload_n hx hb dX1_copyFrom_14 rfl (lv_at hl 1 rfl) ?_
        refine z_get C0 hP hG2.n0 hG2.o fd_X1_11 rfl dX1_copyFrom_15 ?_
        refine lv_iload_n hx hb dX1_copyFrom_18 rfl (lv_at hl 2 rfl) ?_
        refine z_aald C0 hP hG2.n1 hG2.a_rw rfl (zIx_nI (by omega) (by decide)) (congrArg va_rf (hrw2 kz hk2)) dX1_copyFrom_19 ?_
        refine z_Vv_mo (As := [.ref (ad (n2 + 2 + 4 * kz))]) (rest := []) C0 hP hS hl.1 (m_X0_copyFrom l _ hC hD (by omega)) lk_X1_37 hC.n0 hC.o rfl rfl (Nat.le_of_ble_eq_true rfl) ⟨Nat.le_of_ble_eq_true rfl, Nat.le_of_ble_eq_true rfl⟩ rfl rfl ⟨Nat.zero_le _, Nat.zero_le _⟩ dX1_copyFrom_20 (fun g_8 H locs hP hS hp => ?_)
        obtain ⟨hC, hF1⟩ := hp
        have hB := hB.kept hF1 (by intro z9 h8 h9; first | (dsimp only [zOne, zRg]; omega) | (dsimp only; omega) | omega)
        have hG := hG.kept hF1 (by first | (dsimp only [zOne, zRg]; omega) | (dsimp only; omega) | omega)
        have hG2 := hG2.kept hF1 (by first | (dsimp only [zOne, zRg]; omega) | (dsimp only; omega) | omega)
        have hD := hD.kept hF1 (by first | (dsimp only [zOne, zRg]; omega) | (dsimp only; omega) | omega)
        have hFr := hFr.tr (hF1.mono (by intro x9 hx9; first | (dsimp only [zOne, zRg] at hx9 ⊢; omega) | (dsimp only at hx9 ⊢; omega) | omega))
        have hH := hH0.mix hk2 hrw hF1 hG hC i1 i2 i3
        refine lv_iinc (v := nI (kz + 1)) (lv' := [(2, .int (nI (kz + 1))), (0, .ref (ad n)), (1, .ref (ad n2))]) hx hb dX1_copyFrom_23 hl (k := 2) rfl (z_inc _) (by decide) rfl (fun ls hl => ?_)
        refine lv_goto (tgt := 2) hx hb dX1_copyFrom_26 (by decide) ?_
        exact ih_2 (kz + 1) hk2 (by omega) _ _ _ _ hP hS hH hB hFr (lv_sub hl [1, 2, 0] rfl)
  have hH : isH cy K ad g n (mixF st st2 0) := by rw [mixF_0]; exact hH
  exact lp_2 _ 0 (Nat.zero_le _) (Nat.lt_succ_self _) _ _ _ _ hP hS hH hB hFr (lv_sub hl [1, 2, 0] rfl)
