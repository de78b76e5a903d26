def rfI : Bool → Int32
  | true => 1
  | false => 0
theorem rfI_t {b : Bool} (h : rfI b ≠ 0) : b = true := by cases b; exact (h rfl).elim; rfl
theorem rfI_f {b : Bool} (h : rfI b = 0) : b = false := by cases b; rfl; exact absurd h (by decide)
set_option maxHeartbeats 4000000 in
set_option maxRecDepth 100000 in
theorem m_X4_readBuffer (l : Launch) {D : va_G} {cy : Nat → ClassId} {K : Nat} {ad : Nat → Nat} {g : Nat → va_E} (sz : Nat) {sn : Nat → Option Nat} {bu tl : Nat → Int32} {ln : Nat} {sw di co ki va : Int32} (hX : isX cy K ad g 0 sn bu tl (nI ln)) (hR : isR cy K ad g 215 sw di co ki va) (hln : ln ≤ 60) (hbu : ∀ k, k < ln → ¬ bu k < 33 ∧ bu k ≤ 126) : Met l yX4_readBuffer (zs yX4_readBuffer cX4_readBuffer 2 (some .int)) ({ frames := 3, cells := 0, slots := 0, locals := 63 } : Room) (va_Pc [.ref (ad 0)] (zIn D cy K ad g sz)) (va_Qi (fun r g1 => r = nI (errN bu (0, di, co, ki, va) ln) ∧ (∃ q : RS, isRs cy K ad g1 215 q ∧ (errN bu (0, di, co, ki, va) ln = ln → q = rdEnd bu (0, di, co, ki, va) ln)) ∧ zFr (zOne 215) g g1) (zOut D cy K ad sz) (zA K ad sz)) 0 0 (zA K ad sz) := by
  refine z_met (by decide) (Nat.le_of_ble_eq_true rfl) (fun p e s m below meth c ls hsz hl C0 hr hnm hP hS => ?_)
  subst hsz
  have hl : lv_has ls 2 [(0, .ref (ad 0))] := hl
  have hx := C0.1; have hb := C0.2.1; have hown := C0.2.2.2.1; have hts := C0.2.2.2.2.1
  have hFr : zFr (zOne 215) g g := zFr.rf
  refine lv_aload_n hx hb dX4_readBuffer_0 rfl (lv_at hl 0 rfl) ?_
  refine z_get C0 hP hX.n0 hX.o fd_X4_38 rfl dX4_readBuffer_1 ?_
  refine z_Vv_mo (As := []) (rest := []) C0 hP hS hl.1 (m_X3_begin l _ hR) lk_X4_121 hR.n0 hR.o rfl rfl (Nat.le_of_ble_eq_true rfl) ⟨Nat.le_of_ble_eq_true rfl, Nat.le_of_ble_eq_true rfl⟩ rfl rfl ⟨Nat.zero_le _, Nat.zero_le _⟩ dX4_readBuffer_4 (fun g_1 H locs hP hS hp => ?_)
  obtain ⟨hR, hF1⟩ := hp
  have hX := hX.kept hF1 (by first | (dsimp only [zOne, zRg, zCl]; omega) | (dsimp only; omega) | omega)
  have hFr := hFr.tr (hF1.mono (by intro x9 hx9; first | (dsimp only [zOne, zRg, zCl] at hx9 ⊢; omega) | (dsimp only at hx9 ⊢; omega) | omega))
  refine lv_iconst (v := 0) hx hb dX4_readBuffer_7 (by decide) ?_
  refine lv_istore_n (lv' := [(1, .int 0), (0, .ref (ad 0))]) hx hb dX4_readBuffer_8 rfl hl (by decide) rfl (fun ls hl => ?_)
  have lp_9 : ∀ (N : Nat) (kz : Nat) (hk : kz ≤ ln) (hE : errN bu (0, di, co, ki, va) kz = kz), ln - kz < N → ∀ (g_2 : Nat → va_E) (H : Heap) (locs : List Loc) (ls : Array Slot), zP D K ad g_2 (zA K ad s.heap.size) H → va_S (zA K ad s.heap.size) s.heap H locs → isX cy K ad g_2 0 sn bu tl (nI ln) → isR cy K ad g_2 215 ((rdEnd bu (0, di, co, ki, va) kz).1) ((rdEnd bu (0, di, co, ki, va) kz).2.1) ((rdEnd bu (0, di, co, ki, va) kz).2.2.1) ((rdEnd bu (0, di, co, ki, va) kz).2.2.2.1) ((rdEnd bu (0, di, co, ki, va) kz).2.2.2.2) → zFr (zOne 215) g g_2 → lv_has ls 2 [(0, .ref (ad 0)), (1, .int (nI kz))] → W p l e ({ frames := 3, cells := 0, slots := 0, locals := 63 } : Room) s m [.ref (ad 0)].toArray below meth c H locs 0 0 (MQ below (va_Qi (fun r g1 => r = nI (errN bu (0, di, co, ki, va) ln) ∧ (∃ q : RS, isRs cy K ad g1 215 q ∧ (errN bu (0, di, co, ki, va) ln = ln → q = rdEnd bu (0, di, co, ki, va) ln)) ∧ zFr (zOne 215) g g1) (zOut D cy K ad s.heap.size) (zA K ad s.heap.size)) [.ref (ad 0)].toArray s 0 0 (zA K ad s.heap.size)) (F0 m 9 ls []) := by
    intro N
    induction N with
    | zero => intro kz hk hE hN; exact absurd hN (Nat.not_lt_zero _)
    | succ N ih_9 =>
      intro kz hk hE hN g_2 H locs ls hP hS hX hR hFr hl
      refine lv_iload_n hx hb dX4_readBuffer_9 rfl (lv_at hl 1 rfl) ?_
      refine lv_aload_n hx hb dX4_readBuffer_10 rfl (lv_at hl 0 rfl) ?_
      refine z_get C0 hP hX.n0 hX.o fd_X4_31 rfl dX4_readBuffer_11 ?_
      refine lv_icmp_ge (tgt := 41) hx hb dX4_readBuffer_14 (by decide) (fun c_14 => ?_) (fun c_14 => ?_)
      · have hk2 : kz = ln := by have := z_ge_t c_14 (by omega) (by omega); omega
        subst hk2
        refine lv_aload_n hx hb dX4_readBuffer_41 rfl (lv_at hl 0 rfl) ?_
        refine z_get C0 hP hX.n0 hX.o fd_X4_31 rfl dX4_readBuffer_42 ?_
        exact z_iret C0 hP hS hr (⟨by rw [hE], ⟨_, hR, fun _ => rfl⟩, hFr⟩) dX4_readBuffer_45
      · have hk2 : kz < ln := z_ge_f c_14 (by omega) (by omega)
        refine lv_aload_n hx hb dX4_readBuffer_17 rfl (lv_at hl 0 rfl) ?_
        refine z_get C0 hP hX.n0 hX.o fd_X4_38 rfl dX4_readBuffer_18 ?_
        refine lv_aload_n hx hb dX4_readBuffer_21 rfl (lv_at hl 0 rfl) ?_
        refine z_get C0 hP hX.n0 hX.o fd_X4_27 rfl dX4_readBuffer_22 ?_
        refine lv_iload_n hx hb dX4_readBuffer_25 rfl (lv_at hl 1 rfl) ?_
        refine z_cald C0 hP hX.n214 hX.a_bu (zIx_nI (by omega) (by decide)) dX4_readBuffer_26 ?_
        refine z_Vi_mo (As := [.int (bu kz)]) (rest := []) C0 hP hS hl.1 (m_X3_takes l _ hR (rdOK_end (rdOK0 di co ki va) kz).st (zchar (hbu kz hk2).1 (hbu kz hk2).2).2.2.1 (zchar (hbu kz hk2).1 (hbu kz hk2).2).2.2.2) lk_X4_127 hR.n0 hR.o rfl rfl (Nat.le_of_ble_eq_true rfl) ⟨Nat.le_of_ble_eq_true rfl, Nat.le_of_ble_eq_true rfl⟩ rfl rfl ⟨Nat.zero_le _, Nat.zero_le _⟩ dX4_readBuffer_27 (fun r_27 g_3 H locs hP hS hp => ?_)
        obtain ⟨hp1, hF1⟩ := hp
        have hX := hX.kept hF1 (by first | (dsimp only [zOne, zRg, zCl]; omega) | (dsimp only; omega) | omega)
        have hFr := hFr.tr (hF1.mono (by intro x9 hx9; first | (dsimp only [zOne, zRg, zCl] at hx9 ⊢; omega) | (dsimp only at hx9 ⊢; omega) | omega))
        have hR : isR cy K ad g_3 215 (rdEnd bu (0, di, co, ki, va) (kz + 1)).1 (rdEnd bu (0, di, co, ki, va) (kz + 1)).2.1 (rdEnd bu (0, di, co, ki, va) (kz + 1)).2.2.1 (rdEnd bu (0, di, co, ki, va) (kz + 1)).2.2.2.1 (rdEnd bu (0, di, co, ki, va) (kz + 1)).2.2.2.2 := (rdPost.next hp1).1
        refine lv_if_ne (tgt := 35) hx hb dX4_readBuffer_30 (by decide) (fun c_30 => ?_) (fun c_30 => ?_)
        · refine lv_iinc (v := nI (kz + 1)) (lv' := [(1, .int (nI (kz + 1))), (0, .ref (ad 0))]) hx hb dX4_readBuffer_35 hl (k := 1) rfl (z_inc _) (by decide) rfl (fun ls hl => ?_)
          refine lv_goto (tgt := 9) hx hb dX4_readBuffer_38 (by decide) ?_
          exact ih_9 (kz + 1) hk2 (errN_yes hE ((rdPost.next hp1).2.2 c_30)) (by omega) _ _ _ _ hP hS hX hR hFr (lv_sub hl [1, 0] rfl)
        · refine lv_iload_n hx hb dX4_readBuffer_33 rfl (lv_at hl 1 rfl) ?_
          have hz := errN_no hE ((rdPost.next hp1).2.1 c_30) (ln - kz - 1)
          rw [show kz + (ln - kz - 1 + 1) = ln by omega] at hz
          exact z_iret C0 hP hS hr (⟨by rw [hz], ⟨_, hR, fun q => absurd (hz.symm.trans q) (by omega)⟩, hFr⟩) dX4_readBuffer_34
  exact lp_9 _ 0 (Nat.zero_le _) rfl (Nat.lt_succ_self _) _ _ _ _ hP hS hX hR hFr (lv_sub hl [1, 0] rfl)
set_option maxHeartbeats 4000000 in
set_option maxRecDepth 100000 in
theorem m_X4_firstError (l : Launch) {D : va_G} {cy : Nat → ClassId} {K : Nat} {ad : Nat → Nat} {g : Nat → va_E} (sz : Nat) {st : Nat → Int32} {sv : Nat → Nat → Int32} {nx sz2 : Nat} {ns : Nat → Option Nat} {ss : Nat → Nat → Int32} {bu : Nat → Int32} {ln : Nat}  (hTT : isT cy K ad g st sv nx sz2 ns ss bu ln) (hln : ln ≤ 60) (hbu : ∀ k, k < ln → ¬ bu k < 33 ∧ bu k ≤ 126) : Met l yX4_firstError (zs yX4_firstError cX4_firstError 1 (some .int)) ({ frames := 4, cells := 0, slots := 0, locals := 84 } : Room) (va_Pc [.ref (ad 0)] (zIn D cy K ad g sz)) (va_Qi (fun r g1 => r = nI (errN bu rs0 ln) ∧ isT cy K ad g1 st sv nx sz2 ns ss bu ln ∧ zFr zCl g g1) (zOut D cy K ad sz) (zA K ad sz)) 0 0 (zA K ad sz) := by
  refine z_met (by decide) (Nat.le_of_ble_eq_true rfl) (fun p e s m below meth c ls hsz hl C0 hr hnm hP hS => ?_)
  subst hsz
  have hl : lv_has ls 1 [(0, .ref (ad 0))] := hl
  have hx := C0.1; have hb := C0.2.1; have hown := C0.2.2.2.1; have hts := C0.2.2.2.2.1
  have hFr : zFr (zCl) g g := zFr.rf
  obtain ⟨sn, tl, rs, x, hX, hH, hHi, hRs, hTr, hSn⟩ := id hTT
  have hR : isR cy K ad g 215 rs.1 rs.2.1 rs.2.2.1 rs.2.2.2.1 rs.2.2.2.2 := hRs
  refine lv_aload_n hx hb dX4_firstError_0 rfl (lv_at hl 0 rfl) ?_
  refine z_Vi_mo (As := []) (rest := []) C0 hP hS hl.1 (m_X4_readBuffer l _ hX hR hln hbu) lk_X4_111 hX.n0 hX.o rfl rfl (Nat.le_of_ble_eq_true rfl) ⟨Nat.le_of_ble_eq_true rfl, Nat.le_of_ble_eq_true rfl⟩ rfl rfl ⟨Nat.zero_le _, Nat.zero_le _⟩ dX4_firstError_1 (fun r_1 g_1 H locs hP hS hp => ?_)
  obtain ⟨h1, ⟨q, hR, -⟩, hF1⟩ := hp
  have hX := hX.kept hF1 (by first | (dsimp only [zOne, zRg, zCl]; omega) | (dsimp only; omega) | omega)
  have hH := hH.kept hF1 (by intro z9 h8 h9; first | (dsimp only [zOne, zRg, zCl]; omega) | (dsimp only; omega) | omega)
  have hHi := hHi.kept hF1 (by intro z9 h8 h9; first | (dsimp only [zOne, zRg, zCl]; omega) | (dsimp only; omega) | omega)
  have hTr := hTr.kept hF1 (by intro z9 h8 h9; first | (dsimp only [zOne, zRg, zCl]; omega) | (dsimp only; omega) | omega)
  have hSn := hSn.kept hF1 (by intro z9 h8; first | (dsimp only [zOne, zRg, zCl]; omega) | (dsimp only; omega) | omega)
  have hFr := hFr.tr (hF1.mono (by intro x9 hx9; first | (dsimp only [zOne, zRg, zCl] at hx9 ⊢; omega) | (dsimp only at hx9 ⊢; omega) | omega))
  subst h1
  have hR : isR cy K ad g_1 215 q.1 q.2.1 q.2.2.1 q.2.2.2.1 q.2.2.2.2 := hR
  exact z_iret C0 hP hS hr (⟨congrArg nI (errN_sim (rdSim0 _ _ _ _) ln), ⟨_, _, q, _, hX, hH, hHi, hR, hTr, hSn⟩, hFr⟩) dX4_firstError_4
set_option maxHeartbeats 4000000 in
set_option maxRecDepth 100000 in
theorem m_X4_doOrderRead (l : Launch) {D : va_G} {cy : Nat → ClassId} {K : Nat} {ad : Nat → Nat} {g : Nat → va_E} (sz : Nat) {sn : Nat → Option Nat} {bu tl : Nat → Int32} {ln : Nat} {st : Nat → Int32} {sw di ki va : Int32} {iz jz : Nat} (hX : isX cy K ad g 0 sn bu tl (nI ln)) (hH : isH cy K ad g 1 st) (hR : isR cy K ad g 215 sw di (nI iz) ki va) (hi : iz < 7) (hv1 : ki ≠ 43 → va = nI jz) (hv2 : ki = 62 → jz < 7) (hv3 : ki ≠ 43 → ki ≠ 62 → jz < 6) (hpc : pcOK st) : Met l yX4_doOrderRead (zs yX4_doOrderRead cX4_doOrderRead 3 (some .boolean)) ({ frames := 6, cells := 0, slots := 0, locals := 141 } : Room) (va_Pc [.ref (ad 0)] (zIn D cy K ad g sz)) (va_Qi (fun r g1 => r = (if ordX st ki iz va jz 4 = st 4 then 1 else 0) ∧ isH cy K ad g1 1 (ordX st ki iz va jz) ∧ zFr (zRg 1 31) g g1) (zOut D cy K ad sz) (zA K ad sz)) 0 0 (zA K ad sz) := by
  refine z_met (by decide) (Nat.le_of_ble_eq_true rfl) (fun p e s m below meth c ls hsz hl C0 hr hnm hP hS => ?_)
  subst hsz
  have hl : lv_has ls 3 [(0, .ref (ad 0))] := hl
  have hx := C0.1; have hb := C0.2.1; have hown := C0.2.2.2.1; have hts := C0.2.2.2.2.1
  have hFr : zFr (zRg 1 31) g g := zFr.rf
  refine lv_aload_n hx hb dX4_doOrderRead_0 rfl (lv_at hl 0 rfl) ?_
  refine z_get C0 hP hX.n0 hX.o fd_X4_10 rfl dX4_doOrderRead_1 ?_
  obtain ⟨rw, hG, hrw, hCs⟩ := id hH
  refine z_get C0 hP hG.n0 hG.o fd_X4_207 rfl dX4_doOrderRead_4 ?_
  refine lv_istore_n (lv' := [(1, .int (st 4)), (0, .ref (ad 0))]) hx hb dX4_doOrderRead_7 rfl hl (by decide) rfl (fun ls hl => ?_)
  refine lv_aload_n hx hb dX4_doOrderRead_8 rfl (lv_at hl 1 rfl) ?_
  refine z_get C0 hP hX.n0 hX.o fd_X4_10 rfl dX4_doOrderRead_9 ?_
  refine z_get C0 hP hG.n0 hG.o fd_X4_286 rfl dX4_doOrderRead_12 ?_
  refine lv_aload_n hx hb dX4_doOrderRead_15 rfl (lv_at hl 1 rfl) ?_
  refine z_get C0 hP hX.n0 hX.o fd_X4_38 rfl dX4_doOrderRead_16 ?_
  refine z_get C0 hP hR.n0 hR.o fd_X4_299 rfl dX4_doOrderRead_19 ?_
  refine z_aald C0 hP hG.n1 hG.a_rw rfl (zIx_nI (by omega) (by decide)) (congrArg va_rf (hrw iz hi)) dX4_doOrderRead_22 ?_
  refine lv_astore_n (lv' := [(2, .ref (ad (1 + 2 + 4 * iz))), (1, .int (st 4)), (0, .ref (ad 0))]) hx hb dX4_doOrderRead_23 rfl hl (by decide) rfl (fun ls hl => ?_)
  refine lv_aload_n hx hb dX4_doOrderRead_24 rfl (lv_at hl 2 rfl) ?_
  refine z_get C0 hP hX.n0 hX.o fd_X4_38 rfl dX4_doOrderRead_25 ?_
  refine z_get C0 hP hR.n0 hR.o fd_X4_302 rfl dX4_doOrderRead_28 ?_
  refine lv_bipush (v := 43) hx hb dX4_doOrderRead_31 (by decide) ?_
  refine lv_icmp_ne (tgt := 55) hx hb dX4_doOrderRead_33 (by decide) (fun c_33 => ?_) (fun c_33 => ?_)
  · refine lv_aload_n hx hb dX4_doOrderRead_55 rfl (lv_at hl 2 rfl) ?_
    refine z_get C0 hP hX.n0 hX.o fd_X4_38 rfl dX4_doOrderRead_56 ?_
    refine z_get C0 hP hR.n0 hR.o fd_X4_302 rfl dX4_doOrderRead_59 ?_
    refine lv_bipush (v := 62) hx hb dX4_doOrderRead_62 (by decide) ?_
    refine lv_icmp_ne (tgt := 94) hx hb dX4_doOrderRead_64 (by decide) (fun c_64 => ?_) (fun c_64 => ?_)
    · refine lv_aload_n hx hb dX4_doOrderRead_94 rfl (lv_at hl 2 rfl) ?_
      refine z_get C0 hP hX.n0 hX.o fd_X4_10 rfl dX4_doOrderRead_95 ?_
      refine lv_aload_n hx hb dX4_doOrderRead_98 rfl (lv_at hl 0 rfl) ?_
      refine lv_aload_n hx hb dX4_doOrderRead_99 rfl (lv_at hl 2 rfl) ?_
      refine z_get C0 hP hX.n0 hX.o fd_X4_38 rfl dX4_doOrderRead_100 ?_
      refine z_get C0 hP hR.n0 hR.o fd_X4_306 rfl dX4_doOrderRead_103 ?_
      refine z_topi (y := nI jz) (hv1 c_33) ?_
      obtain ⟨fs_106, hfs_106⟩ := hH.rc
      refine z_Vi_mo (As := [.ref (ad (1 + 2 + 4 * iz)), .int (nI jz)]) (rest := []) C0 hP hS hl.1 (mf_loosen l _ hH hi (hv3 c_33 c_64)) lk_X4_83 hH.n0 hfs_106 rfl rfl (Nat.le_of_ble_eq_true rfl) ⟨Nat.le_of_ble_eq_true rfl, Nat.le_of_ble_eq_true rfl⟩ rfl rfl ⟨Nat.zero_le _, Nat.zero_le _⟩ dX4_doOrderRead_106 (fun r_106 g_1 H locs hP hS hp => ?_)
      obtain ⟨hr_106, hH, hF1⟩ := hp
      have hX := hX.kept hF1 (by first | (dsimp only [zOne, zRg, zCl]; omega) | (dsimp only; omega) | omega)
      have hR := hR.kept hF1 (by first | (dsimp only [zOne, zRg, zCl]; omega) | (dsimp only; omega) | omega)
      have hFr := hFr.tr (hF1.mono (by intro x9 hx9; first | (dsimp only [zOne, zRg, zCl] at hx9 ⊢; omega) | (dsimp only at hx9 ⊢; omega) | omega))
      rw [show slipS st iz jz = ordX st ki iz va jz from ((if_neg c_33).trans (if_neg c_64)).symm] at hH
      refine lv_pop hx hb dX4_doOrderRead_109 rfl ?_
      refine lv_aload_n hx hb dX4_doOrderRead_110 rfl (lv_at hl 2 rfl) ?_
      refine z_get C0 hP hX.n0 hX.o fd_X4_10 rfl dX4_doOrderRead_111 ?_
      obtain ⟨rw, hG, hrw, hCs⟩ := id hH
      refine z_get C0 hP hG.n0 hG.o fd_X4_207 rfl dX4_doOrderRead_114 ?_
      refine lv_iload_n hx hb dX4_doOrderRead_117 rfl (lv_at hl 1 rfl) ?_
      refine lv_icmp_ne (tgt := 125) hx hb dX4_doOrderRead_118 (by decide) (fun c_118 => ?_) (fun c_118 => ?_)
      · refine lv_iconst (v := 0) hx hb dX4_doOrderRead_125 (by decide) ?_
        exact z_zret C0 hP hS hr rfl (⟨(if_neg c_118).symm, hH, hFr⟩) dX4_doOrderRead_126
      · refine lv_iconst (v := 1) hx hb dX4_doOrderRead_121 (by decide) ?_
        refine lv_goto (tgt := 126) hx hb dX4_doOrderRead_122 (by decide) ?_
        exact z_zret C0 hP hS hr rfl (⟨(if_pos c_118).symm, hH, hFr⟩) dX4_doOrderRead_126
    · refine lv_aload_n hx hb dX4_doOrderRead_67 rfl (lv_at hl 2 rfl) ?_
      refine z_get C0 hP hX.n0 hX.o fd_X4_10 rfl dX4_doOrderRead_68 ?_
      refine lv_aload_n hx hb dX4_doOrderRead_71 rfl (lv_at hl 0 rfl) ?_
      refine lv_aload_n hx hb dX4_doOrderRead_72 rfl (lv_at hl 2 rfl) ?_
      refine z_get C0 hP hX.n0 hX.o fd_X4_10 rfl dX4_doOrderRead_73 ?_
      refine z_get C0 hP hG.n0 hG.o fd_X4_286 rfl dX4_doOrderRead_76 ?_
      refine lv_aload_n hx hb dX4_doOrderRead_79 rfl (lv_at hl 2 rfl) ?_
      refine z_get C0 hP hX.n0 hX.o fd_X4_38 rfl dX4_doOrderRead_80 ?_
      refine z_get C0 hP hR.n0 hR.o fd_X4_306 rfl dX4_doOrderRead_83 ?_
      refine z_topi (y := nI jz) (hv1 c_33) ?_
      refine z_aald C0 hP hG.n1 hG.a_rw rfl (zIx_nI (by have := hv2 c_64; omega) (by decide)) (congrArg va_rf (hrw jz (hv2 c_64))) dX4_doOrderRead_86 ?_
      obtain ⟨fs_87, hfs_87⟩ := hH.rc
      refine z_Vi_mo (As := [.ref (ad (1 + 2 + 4 * iz)), .ref (ad (1 + 2 + 4 * jz))]) (rest := []) C0 hP hS hl.1 (m_X1_tieCord l _ hH hi (hv2 c_64) hpc) lk_X4_76 hH.n0 hfs_87 rfl rfl (Nat.le_of_ble_eq_true rfl) ⟨Nat.le_of_ble_eq_true rfl, Nat.le_of_ble_eq_true rfl⟩ rfl rfl ⟨Nat.zero_le _, Nat.zero_le _⟩ dX4_doOrderRead_87 (fun r_87 g_2 H locs hP hS hp => ?_)
      obtain ⟨hr_87, hH, hF1⟩ := hp
      have hX := hX.kept hF1 (by first | (dsimp only [zOne, zRg, zCl]; omega) | (dsimp only; omega) | omega)
      have hR := hR.kept hF1 (by first | (dsimp only [zOne, zRg, zCl]; omega) | (dsimp only; omega) | omega)
      have hFr := hFr.tr (hF1.mono (by intro x9 hx9; first | (dsimp only [zOne, zRg, zCl] at hx9 ⊢; omega) | (dsimp only at hx9 ⊢; omega) | omega))
      rw [show addS st iz jz = ordX st ki iz va jz from ((if_neg c_33).trans (if_pos c_64)).symm] at hH
      refine lv_pop hx hb dX4_doOrderRead_90 rfl ?_
      refine lv_goto (tgt := 110) hx hb dX4_doOrderRead_91 (by decide) ?_
      refine lv_aload_n hx hb dX4_doOrderRead_110 rfl (lv_at hl 2 rfl) ?_
      refine z_get C0 hP hX.n0 hX.o fd_X4_10 rfl dX4_doOrderRead_111 ?_
      obtain ⟨rw, hG, hrw, hCs⟩ := id hH
      refine z_get C0 hP hG.n0 hG.o fd_X4_207 rfl dX4_doOrderRead_114 ?_
      refine lv_iload_n hx hb dX4_doOrderRead_117 rfl (lv_at hl 1 rfl) ?_
      refine lv_icmp_ne (tgt := 125) hx hb dX4_doOrderRead_118 (by decide) (fun c_118 => ?_) (fun c_118 => ?_)
      · refine lv_iconst (v := 0) hx hb dX4_doOrderRead_125 (by decide) ?_
        exact z_zret C0 hP hS hr rfl (⟨(if_neg c_118).symm, hH, hFr⟩) dX4_doOrderRead_126
      · refine lv_iconst (v := 1) hx hb dX4_doOrderRead_121 (by decide) ?_
        refine lv_goto (tgt := 126) hx hb dX4_doOrderRead_122 (by decide) ?_
        exact z_zret C0 hP hS hr rfl (⟨(if_pos c_118).symm, hH, hFr⟩) dX4_doOrderRead_126
  · refine lv_aload_n hx hb dX4_doOrderRead_36 rfl (lv_at hl 2 rfl) ?_
    refine z_get C0 hP hX.n0 hX.o fd_X4_10 rfl dX4_doOrderRead_37 ?_
    refine lv_aload_n hx hb dX4_doOrderRead_40 rfl (lv_at hl 0 rfl) ?_
    refine lv_aload_n hx hb dX4_doOrderRead_41 rfl (lv_at hl 2 rfl) ?_
    refine z_get C0 hP hX.n0 hX.o fd_X4_38 rfl dX4_doOrderRead_42 ?_
    refine z_get C0 hP hR.n0 hR.o fd_X4_306 rfl dX4_doOrderRead_45 ?_
    obtain ⟨fs_48, hfs_48⟩ := hH.rc
    refine z_Vi_mo (As := [.ref (ad (1 + 2 + 4 * iz)), .int va]) (rest := []) C0 hP hS hl.1 (mf_tiePart l _ hH hi hpc) lk_X4_65 hH.n0 hfs_48 rfl rfl (Nat.le_of_ble_eq_true rfl) ⟨Nat.le_of_ble_eq_true rfl, Nat.le_of_ble_eq_true rfl⟩ rfl rfl ⟨Nat.zero_le _, Nat.zero_le _⟩ dX4_doOrderRead_48 (fun r_48 g_3 H locs hP hS hp => ?_)
    obtain ⟨hr_48, hH, hF1⟩ := hp
    have hX := hX.kept hF1 (by first | (dsimp only [zOne, zRg, zCl]; omega) | (dsimp only; omega) | omega)
    have hR := hR.kept hF1 (by first | (dsimp only [zOne, zRg, zCl]; omega) | (dsimp only; omega) | omega)
    have hFr := hFr.tr (hF1.mono (by intro x9 hx9; first | (dsimp only [zOne, zRg, zCl] at hx9 ⊢; omega) | (dsimp only at hx9 ⊢; omega) | omega))
    rw [show tieS st iz va = ordX st ki iz va jz from (if_pos c_33).symm] at hH
    refine lv_pop hx hb dX4_doOrderRead_51 rfl ?_
    refine lv_goto (tgt := 110) hx hb dX4_doOrderRead_52 (by decide) ?_
    refine lv_aload_n hx hb dX4_doOrderRead_110 rfl (lv_at hl 2 rfl) ?_
    refine z_get C0 hP hX.n0 hX.o fd_X4_10 rfl dX4_doOrderRead_111 ?_
    obtain ⟨rw, hG, hrw, hCs⟩ := id hH
    refine z_get C0 hP hG.n0 hG.o fd_X4_207 rfl dX4_doOrderRead_114 ?_
    refine lv_iload_n hx hb dX4_doOrderRead_117 rfl (lv_at hl 1 rfl) ?_
    refine lv_icmp_ne (tgt := 125) hx hb dX4_doOrderRead_118 (by decide) (fun c_118 => ?_) (fun c_118 => ?_)
    · refine lv_iconst (v := 0) hx hb dX4_doOrderRead_125 (by decide) ?_
      exact z_zret C0 hP hS hr rfl (⟨(if_neg c_118).symm, hH, hFr⟩) dX4_doOrderRead_126
    · refine lv_iconst (v := 1) hx hb dX4_doOrderRead_121 (by decide) ?_
      refine lv_goto (tgt := 126) hx hb dX4_doOrderRead_122 (by decide) ?_
      exact z_zret C0 hP hS hr rfl (⟨(if_pos c_118).symm, hH, hFr⟩) dX4_doOrderRead_126
set_option maxHeartbeats 4000000 in
set_option maxRecDepth 100000 in
theorem m_X4_run (l : Launch) {D : va_G} {cy : Nat → ClassId} {K : Nat} {ad : Nat → Nat} {g : Nat → va_E} (sz : Nat) {st : Nat → Int32} {sv : Nat → Nat → Int32} {nx sz2 : Nat} {ns : Nat → Option Nat} {ss : Nat → Nat → Int32} {bu : Nat → Int32} {ln : Nat}  (hTT : isT cy K ad g st sv nx sz2 ns ss bu ln) (hln : ln ≤ 60) (hbu : ∀ k, k < ln → ¬ bu k < 33 ∧ bu k ≤ 126) (hpc : pcOK st) (hall : errN bu rs0 ln = ln) (h3 : (rdEnd bu rs0 ln).1 = 3) (hnx : nx < 6) (hsz : sz2 ≤ 6) : Met l yX4_run (zs yX4_run cX4_run 4 (some .int)) ({ frames := 7, cells := 0, slots := 0, locals := 163 } : Room) (va_Pc [.ref (ad 0)] (zIn D cy K ad g sz)) (va_Qi (fun r g1 => r = nI (doSt bu rs0 ln st (ln + 1)).2.1 ∧ isT cy K ad g1 ((doSt bu rs0 ln st (ln + 1)).1) (va_up sv nx st) ((nx + 1) % 6) (min (sz2 + 1) 6) ns ss bu 0 ∧ zFr zCl g g1) (zOut D cy K ad sz) (zA K ad sz)) 0 0 (zA K ad sz) := by
  refine z_met (by decide) (Nat.le_of_ble_eq_true rfl) (fun p e s m below meth c ls hsz hl C0 hr hnm hP hS => ?_)
  subst hsz
  have hl : lv_has ls 4 [(0, .ref (ad 0))] := hl
  have hx := C0.1; have hb := C0.2.1; have hown := C0.2.2.2.1; have hts := C0.2.2.2.2.1
  have hFr : zFr (zCl) g g := zFr.rf
  obtain ⟨sn, tl, rs, x, hX, hH, hHi, hRs, hTr, hSn⟩ := id hTT
  have hR : isR cy K ad g 215 rs.1 rs.2.1 rs.2.2.1 rs.2.2.2.1 rs.2.2.2.2 := hRs
  refine lv_aload_n hx hb dX4_run_0 rfl (lv_at hl 0 rfl) ?_
  refine z_Vi_mo (As := []) (rest := []) C0 hP hS hl.1 (m_X4_readBuffer l _ hX hR hln hbu) lk_X4_111 hX.n0 hX.o rfl rfl (Nat.le_of_ble_eq_true rfl) ⟨Nat.le_of_ble_eq_true rfl, Nat.le_of_ble_eq_true rfl⟩ rfl rfl ⟨Nat.zero_le _, Nat.zero_le _⟩ dX4_run_1 (fun r_1 g_1 H locs hP hS hp => ?_)
  obtain ⟨h1, ⟨q, hR, hq⟩, hF1⟩ := hp
  have hX := hX.kept hF1 (by first | (dsimp only [zOne, zRg, zCl]; omega) | (dsimp only; omega) | omega)
  have hH := hH.kept hF1 (by intro z9 h8 h9; first | (dsimp only [zOne, zRg, zCl]; omega) | (dsimp only; omega) | omega)
  have hHi := hHi.kept hF1 (by intro z9 h8 h9; first | (dsimp only [zOne, zRg, zCl]; omega) | (dsimp only; omega) | omega)
  have hTr := hTr.kept hF1 (by intro z9 h8 h9; first | (dsimp only [zOne, zRg, zCl]; omega) | (dsimp only; omega) | omega)
  have hSn := hSn.kept hF1 (by intro z9 h8; first | (dsimp only [zOne, zRg, zCl]; omega) | (dsimp only; omega) | omega)
  have hFr := hFr.tr (hF1.mono (by intro x9 hx9; first | (dsimp only [zOne, zRg, zCl] at hx9 ⊢; omega) | (dsimp only at hx9 ⊢; omega) | omega))
  have hE := errN_sim (bu := bu) (rdSim0 rs.2.1 rs.2.2.1 rs.2.2.2.1 rs.2.2.2.2) ln
  have hE2 := hE.trans hall
  rw [hE2] at h1
  subst h1
  have hR : isR cy K ad g_1 215 q.1 q.2.1 q.2.2.1 q.2.2.2.1 q.2.2.2.2 := hR
  have hq := hq hE2
  have hq3 : q.1 = 3 := by rw [hq]; exact (rdSim_end (rdSim0 _ _ _ _) ln).1.trans h3
  refine lv_aload_n hx hb dX4_run_4 rfl (lv_at hl 0 rfl) ?_
  refine z_get C0 hP hX.n0 hX.o fd_X4_31 rfl dX4_run_5 ?_
  refine lv_icmp_lt (tgt := 21) hx hb dX4_run_8 (by decide) (fun c_8 => absurd c_8 (nI_nlt (Nat.le_refl _) (by omega))) (fun c_8 => ?_)
  refine lv_aload_n hx hb dX4_run_11 rfl (lv_at hl 0 rfl) ?_
  refine z_get C0 hP hX.n0 hX.o fd_X4_38 rfl dX4_run_12 ?_
  refine z_Vi_eq (As := []) (rest := []) C0 hP hS hl.1 (m_X3_hasWholeOrder l _ hR) lk_X4_115 hR.n0 hR.o rfl rfl (Nat.le_of_ble_eq_true rfl) ⟨Nat.le_of_ble_eq_true rfl, Nat.le_of_ble_eq_true rfl⟩ rfl rfl ⟨Nat.zero_le _, Nat.zero_le _⟩ dX4_run_15 (fun H locs hP hS => ?_)
  refine lv_if_ne (tgt := 31) hx hb dX4_run_18 (by decide) (fun c_18 => ?_) (fun c_18 => absurd (show (if q.1 = 3 then (1 : Int32) else 0) = 0 from c_18) (by rw [if_pos hq3]; decide))
  refine lv_aload_n hx hb dX4_run_31 rfl (lv_at hl 0 rfl) ?_
  refine z_get C0 hP hX.n0 hX.o fd_X4_19 rfl dX4_run_32 ?_
  refine lv_aload_n hx hb dX4_run_35 rfl (lv_at hl 0 rfl) ?_
  refine z_get C0 hP hX.n0 hX.o fd_X4_10 rfl dX4_run_36 ?_
  obtain ⟨fs_39, hfs_39⟩ := hHi.rc
  refine z_Vv_mo (As := [.ref (ad 1)]) (rest := []) C0 hP hS hl.1 (m_X2_save l _ hHi hH (by omega) hnx hsz) lk_X4_61 hHi.n0 hfs_39 rfl rfl (Nat.le_of_ble_eq_true rfl) ⟨Nat.le_of_ble_eq_true rfl, Nat.le_of_ble_eq_true rfl⟩ rfl rfl ⟨Nat.zero_le _, Nat.zero_le _⟩ dX4_run_39 (fun g_2 H locs hP hS hp => ?_)
  obtain ⟨hHi, hF1⟩ := hp
  have hX := hX.kept hF1 (by first | (dsimp only [zOne, zRg, zCl]; omega) | (dsimp only; omega) | omega)
  have hH := hH.kept hF1 (by intro z9 h8 h9; first | (dsimp only [zOne, zRg, zCl]; omega) | (dsimp only; omega) | omega)
  have hR := hR.kept hF1 (by first | (dsimp only [zOne, zRg, zCl]; omega) | (dsimp only; omega) | omega)
  have hTr := hTr.kept hF1 (by intro z9 h8 h9; first | (dsimp only [zOne, zRg, zCl]; omega) | (dsimp only; omega) | omega)
  have hSn := hSn.kept hF1 (by intro z9 h8; first | (dsimp only [zOne, zRg, zCl]; omega) | (dsimp only; omega) | omega)
  have hFr := hFr.tr (hF1.mono (by intro x9 hx9; first | (dsimp only [zOne, zRg, zCl] at hx9 ⊢; omega) | (dsimp only at hx9 ⊢; omega) | omega))
  have hsim := rdSim0 q.2.1 q.2.2.1 q.2.2.2.1 q.2.2.2.2
  have hE2q := (errN_sim (bu := bu) hsim ln).trans hall
  have h3q := (rdSim_end (bu := bu) hsim ln).1.trans h3
  have eD := doSt_sim (st := st) hsim (rdOK0 _ _ _ _) hE2q h3q (ln + 1) (Nat.le_refl _)
  refine lv_iconst (v := (nI 0)) hx hb dX4_run_42 (by decide) ?_
  refine lv_istore_n (lv' := [(1, .int (nI 0)), (0, .ref (ad 0))]) hx hb dX4_run_43 rfl hl (by decide) rfl (fun ls hl => ?_)
  refine lv_iconst (v := 0) hx hb dX4_run_44 (by decide) ?_
  refine lv_istore_n (lv' := [(2, .int 0), (1, .int (nI 0)), (0, .ref (ad 0))]) hx hb dX4_run_45 rfl hl (by decide) rfl (fun ls hl => ?_)
  refine lv_aload_n hx hb dX4_run_46 rfl (lv_at hl 2 rfl) ?_
  refine z_get C0 hP hX.n0 hX.o fd_X4_38 rfl dX4_run_47 ?_
  refine z_Vv_mo (As := []) (rest := []) C0 hP hS hl.1 (m_X3_begin l _ hR) lk_X4_121 hR.n0 hR.o rfl rfl (Nat.le_of_ble_eq_true rfl) ⟨Nat.le_of_ble_eq_true rfl, Nat.le_of_ble_eq_true rfl⟩ rfl rfl ⟨Nat.zero_le _, Nat.zero_le _⟩ dX4_run_50 (fun g_3 H locs hP hS hp => ?_)
  obtain ⟨hR, hF1⟩ := hp
  have hX := hX.kept hF1 (by first | (dsimp only [zOne, zRg, zCl]; omega) | (dsimp only; omega) | omega)
  have hH := hH.kept hF1 (by intro z9 h8 h9; first | (dsimp only [zOne, zRg, zCl]; omega) | (dsimp only; omega) | omega)
  have hHi := hHi.kept hF1 (by intro z9 h8 h9; first | (dsimp only [zOne, zRg, zCl]; omega) | (dsimp only; omega) | omega)
  have hTr := hTr.kept hF1 (by intro z9 h8 h9; first | (dsimp only [zOne, zRg, zCl]; omega) | (dsimp only; omega) | omega)
  have hSn := hSn.kept hF1 (by intro z9 h8; first | (dsimp only [zOne, zRg, zCl]; omega) | (dsimp only; omega) | omega)
  have hFr := hFr.tr (hF1.mono (by intro x9 hx9; first | (dsimp only [zOne, zRg, zCl] at hx9 ⊢; omega) | (dsimp only at hx9 ⊢; omega) | omega))
  refine lv_iconst (v := 0) hx hb dX4_run_53 (by decide) ?_
  refine lv_istore_n (lv' := [(3, .int 0), (2, .int 0), (1, .int (nI 0)), (0, .ref (ad 0))]) hx hb dX4_run_54 rfl hl (by decide) rfl (fun ls hl => ?_)
  have lp_55 : ∀ (N : Nat) (kz : Nat) (sR : RS) (hk : kz ≤ ln + 1) (hs : kz ≤ ln → sR = rdEnd bu (0, q.2.1, q.2.2.1, q.2.2.2.1, q.2.2.2.2) kz), ln + 1 - kz < N → ∀ (g_4 : Nat → va_E) (H : Heap) (locs : List Loc) (ls : Array Slot), zP D K ad g_4 (zA K ad s.heap.size) H → va_S (zA K ad s.heap.size) s.heap H locs → isX cy K ad g_4 0 sn bu tl (nI ln) → isH cy K ad g_4 1 ((doSt bu (0, q.2.1, q.2.2.1, q.2.2.2.1, q.2.2.2.2) ln st kz).1) → isHi cy K ad g_4 31 (va_up sv nx st) ((nx + 1) % 6) (min (sz2 + 1) 6) → isR cy K ad g_4 215 sR.1 sR.2.1 sR.2.2.1 sR.2.2.2.1 sR.2.2.2.2 → isCs cy K ad g_4 216 x → isSn cy K ad g_4 sn ns ss → zFr (zCl) g g_4 → lv_has ls 4 [(0, .ref (ad 0)), (1, .int (nI (doSt bu (0, q.2.1, q.2.2.1, q.2.2.2.1, q.2.2.2.2) ln st kz).2.1)), (2, .int (rfI (doSt bu (0, q.2.1, q.2.2.1, q.2.2.2.1, q.2.2.2.2) ln st kz).2.2)), (3, .int (nI kz))] → W p l e ({ frames := 7, cells := 0, slots := 0, locals := 163 } : Room) s m [.ref (ad 0)].toArray below meth c H locs 0 0 (MQ below (va_Qi (fun r g1 => r = nI (doSt bu rs0 ln st (ln + 1)).2.1 ∧ isT cy K ad g1 ((doSt bu rs0 ln st (ln + 1)).1) (va_up sv nx st) ((nx + 1) % 6) (min (sz2 + 1) 6) ns ss bu 0 ∧ zFr zCl g g1) (zOut D cy K ad s.heap.size) (zA K ad s.heap.size)) [.ref (ad 0)].toArray s 0 0 (zA K ad s.heap.size)) (F0 m 55 ls []) := by
    intro N
    induction N with
    | zero => intro kz sR hk hs hN; exact absurd hN (Nat.not_lt_zero _)
    | succ N ih_55 =>
      intro kz sR hk hs hN g_4 H locs ls hP hS hX hH hHi hR hTr hSn hFr hl
      refine lv_iload_n hx hb dX4_run_55 rfl (lv_at hl 3 rfl) ?_
      refine lv_aload_n hx hb dX4_run_56 rfl (lv_at hl 0 rfl) ?_
      refine z_get C0 hP hX.n0 hX.o fd_X4_31 rfl dX4_run_57 ?_
      refine lv_icmp_gt (tgt := 139) hx hb dX4_run_60 (by decide) (fun c_60 => ?_) (fun c_60 => ?_)
      · have hk3 : kz = ln + 1 := by have := z_lt_t c_60 (by omega) (by omega); omega
        subst hk3
        have eX := eD
        rw [eX] at hl hH
        refine lv_aload_n hx hb dX4_run_139 rfl (lv_at hl 0 rfl) ?_
        refine lv_iconst (v := (nI 0)) hx hb dX4_run_140 (by decide) ?_
        refine zp_X_ln C0 hP hS hX hFr (by first | rfl | (dsimp only [zOne, zRg, zCl]; omega) | (dsimp only; omega) | omega) fp_X4_31 dX4_run_141 (fun g_5 H locs hP hS hX hFr hF1 => ?_)
        have hH := hH.kept hF1 (by intro z9 h8 h9; first | (dsimp only [zOne, zRg, zCl]; omega) | (dsimp only; omega) | omega)
        have hHi := hHi.kept hF1 (by intro z9 h8 h9; first | (dsimp only [zOne, zRg, zCl]; omega) | (dsimp only; omega) | omega)
        have hR := hR.kept hF1 (by first | (dsimp only [zOne, zRg, zCl]; omega) | (dsimp only; omega) | omega)
        have hTr := hTr.kept hF1 (by intro z9 h8 h9; first | (dsimp only [zOne, zRg, zCl]; omega) | (dsimp only; omega) | omega)
        have hSn := hSn.kept hF1 (by intro z9 h8; first | (dsimp only [zOne, zRg, zCl]; omega) | (dsimp only; omega) | omega)
        refine lv_iload_n hx hb dX4_run_144 rfl (lv_at hl 1 rfl) ?_
        exact z_iret C0 hP hS hr (⟨rfl, ⟨_, _, sR, _, hX, hH, hHi, hR, hTr, hSn⟩, hFr⟩) dX4_run_145
      · have hk3 : kz ≤ ln := z_lt_f c_60 (by omega) (by omega)
        refine lv_iload_n hx hb dX4_run_63 rfl (lv_at hl 2 rfl) ?_
        refine lv_if_ne (tgt := 139) hx hb dX4_run_64 (by decide) (fun c_64 => ?_) (fun c_64 => ?_)
        · have hD : (doSt bu (0, q.2.1, q.2.2.1, q.2.2.2.1, q.2.2.2.2) ln st kz).2.2 = true := rfI_t c_64
          have e8 := doSt_stop hD (ln + 1 - kz)
          rw [show kz + (ln + 1 - kz) = ln + 1 by omega] at e8
          have eX := e8.symm.trans eD
          rw [eX] at hl hH
          refine lv_aload_n hx hb dX4_run_139 rfl (lv_at hl 0 rfl) ?_
          refine lv_iconst (v := (nI 0)) hx hb dX4_run_140 (by decide) ?_
          refine zp_X_ln C0 hP hS hX hFr (by first | rfl | (dsimp only [zOne, zRg, zCl]; omega) | (dsimp only; omega) | omega) fp_X4_31 dX4_run_141 (fun g_6 H locs hP hS hX hFr hF1 => ?_)
          have hH := hH.kept hF1 (by intro z9 h8 h9; first | (dsimp only [zOne, zRg, zCl]; omega) | (dsimp only; omega) | omega)
          have hHi := hHi.kept hF1 (by intro z9 h8 h9; first | (dsimp only [zOne, zRg, zCl]; omega) | (dsimp only; omega) | omega)
          have hR := hR.kept hF1 (by first | (dsimp only [zOne, zRg, zCl]; omega) | (dsimp only; omega) | omega)
          have hTr := hTr.kept hF1 (by intro z9 h8 h9; first | (dsimp only [zOne, zRg, zCl]; omega) | (dsimp only; omega) | omega)
          have hSn := hSn.kept hF1 (by intro z9 h8; first | (dsimp only [zOne, zRg, zCl]; omega) | (dsimp only; omega) | omega)
          refine lv_iload_n hx hb dX4_run_144 rfl (lv_at hl 1 rfl) ?_
          exact z_iret C0 hP hS hr (⟨rfl, ⟨_, _, sR, _, hX, hH, hHi, hR, hTr, hSn⟩, hFr⟩) dX4_run_145
        · have hD : (doSt bu (0, q.2.1, q.2.2.1, q.2.2.2.1, q.2.2.2.2) ln st kz).2.2 = false := rfI_f c_64
          refine lv_iload_n hx hb dX4_run_67 rfl (lv_at hl 3 rfl) ?_
          refine lv_aload_n hx hb dX4_run_68 rfl (lv_at hl 0 rfl) ?_
          refine z_get C0 hP hX.n0 hX.o fd_X4_31 rfl dX4_run_69 ?_
          refine lv_icmp_eq (tgt := 86) hx hb dX4_run_72 (by decide) (fun c_72 => ?_) (fun c_72 => ?_)
          · have hO : kz = ln ∨ bu kz = 59 := Or.inl ((nI_eq (by omega) (by omega)).mp c_72)
            refine lv_aload_n hx hb dX4_run_86 rfl (lv_at hl 0 rfl) ?_
            have hsR := hs (by omega)
            subst hsR
            have h9 := at_ord (rdOK0 q.2.1 q.2.2.1 q.2.2.2.1 q.2.2.2.2) hE2q h3q (by omega) hO
            obtain ⟨o1, o2, o3, o4, o5⟩ := ord_c (rdOK_end (bu := bu) (rdOK0 q.2.1 q.2.2.1 q.2.2.2.1 q.2.2.2.2) kz) h9
            have hpk := pcOK_doSt (st := st) hpc (rdOK0 q.2.1 q.2.2.1 q.2.2.2.1 q.2.2.2.2) hE2q h3q kz (by omega)
            rw [o1] at hR
            refine z_Vi_mo (As := []) (rest := []) C0 hP hS hl.1 (m_X4_doOrderRead l _ hX hH hR o2 o3 o4 o5 hpk) lk_X4_124 hX.n0 hX.o rfl rfl (Nat.le_of_ble_eq_true rfl) ⟨Nat.le_of_ble_eq_true rfl, Nat.le_of_ble_eq_true rfl⟩ rfl rfl ⟨Nat.zero_le _, Nat.zero_le _⟩ dX4_run_87 (fun r_87 g_7 H locs hP hS hp => ?_)
            obtain ⟨hr_87, hH, hF1⟩ := hp
            have hX := hX.kept hF1 (by first | (dsimp only [zOne, zRg, zCl]; omega) | (dsimp only; omega) | omega)
            have hHi := hHi.kept hF1 (by intro z9 h8 h9; first | (dsimp only [zOne, zRg, zCl]; omega) | (dsimp only; omega) | omega)
            have hR := hR.kept hF1 (by first | (dsimp only [zOne, zRg, zCl]; omega) | (dsimp only; omega) | omega)
            have hTr := hTr.kept hF1 (by intro z9 h8 h9; first | (dsimp only [zOne, zRg, zCl]; omega) | (dsimp only; omega) | omega)
            have hSn := hSn.kept hF1 (by intro z9 h8; first | (dsimp only [zOne, zRg, zCl]; omega) | (dsimp only; omega) | omega)
            have hFr := hFr.tr (hF1.mono (by intro x9 hx9; first | (dsimp only [zOne, zRg, zCl] at hx9 ⊢; omega) | (dsimp only at hx9 ⊢; omega) | omega))
            have hH : isH cy K ad g_7 1 (ordN (doSt bu (0, q.2.1, q.2.2.1, q.2.2.2.1, q.2.2.2.2) ln st kz).1 (rdEnd bu (0, q.2.1, q.2.2.1, q.2.2.2.1, q.2.2.2.2) kz)) := hH
            rw [← o1] at hR
            have hr9 : r_87 = (if (ordN (doSt bu (0, q.2.1, q.2.2.1, q.2.2.2.1, q.2.2.2.2) ln st kz).1 (rdEnd bu (0, q.2.1, q.2.2.1, q.2.2.2.1, q.2.2.2.2) kz)) 4 = (doSt bu (0, q.2.1, q.2.2.1, q.2.2.2.1, q.2.2.2.2) ln st kz).1 4 then 1 else 0) := hr_87
            refine lv_if_ne (tgt := 97) hx hb dX4_run_90 (by decide) (fun c_90 => ?_) (fun c_90 => ?_)
            · have c9 : (ordN (doSt bu (0, q.2.1, q.2.2.1, q.2.2.2.1, q.2.2.2.2) ln st kz).1 (rdEnd bu (0, q.2.1, q.2.2.1, q.2.2.2.1, q.2.2.2.2) kz)) 4 = (doSt bu (0, q.2.1, q.2.2.1, q.2.2.2.1, q.2.2.2.2) ln st kz).1 4 := by by_cases c9 : (ordN (doSt bu (0, q.2.1, q.2.2.1, q.2.2.2.1, q.2.2.2.2) ln st kz).1 (rdEnd bu (0, q.2.1, q.2.2.1, q.2.2.2.1, q.2.2.2.2) kz)) 4 = (doSt bu (0, q.2.1, q.2.2.1, q.2.2.2.1, q.2.2.2.2) ln st kz).1 4; exact c9; rw [if_neg c9] at hr9; exact absurd hr9 c_90
              have e9 := doSt_a hD hO c9
              have hf9 : (doSt bu (0, q.2.1, q.2.2.1, q.2.2.2.1, q.2.2.2.2) ln st (kz + 1)).2.2 = false := by rw [e9]
              rw [show ordN (doSt bu (0, q.2.1, q.2.2.1, q.2.2.2.1, q.2.2.2.2) ln st kz).1 (rdEnd bu (0, q.2.1, q.2.2.1, q.2.2.2.1, q.2.2.2.2) kz) = (doSt bu (0, q.2.1, q.2.2.1, q.2.2.2.1, q.2.2.2.2) ln st (kz + 1)).1 by rw [e9]] at hH
              have n9 : (doSt bu (0, q.2.1, q.2.2.1, q.2.2.2.1, q.2.2.2.2) ln st (kz + 1)).2.1 = (doSt bu (0, q.2.1, q.2.2.1, q.2.2.2.1, q.2.2.2.2) ln st kz).2.1 + 1 := by rw [e9]
              refine lv_iconst (v := 0) hx hb dX4_run_97 (by decide) ?_
              refine z_topi (y := rfI (doSt bu (0, q.2.1, q.2.2.1, q.2.2.2.1, q.2.2.2.2) ln st (kz + 1)).2.2) ((congrArg rfI hf9).symm) ?_
              refine lv_istore_n (lv' := [(2, .int (rfI (doSt bu (0, q.2.1, q.2.2.1, q.2.2.2.1, q.2.2.2.2) ln st (kz + 1)).2.2)), (0, .ref (ad 0)), (1, .int (nI (doSt bu (0, q.2.1, q.2.2.1, q.2.2.2.1, q.2.2.2.2) ln st kz).2.1)), (3, .int (nI kz))]) hx hb dX4_run_98 rfl hl (by decide) rfl (fun ls hl => ?_)
              refine lv_iload_n hx hb dX4_run_99 rfl (lv_at hl 2 rfl) ?_
              refine lv_iload_n hx hb dX4_run_100 rfl (lv_at hl 0 rfl) ?_
              refine lv_if_eq (tgt := 108) hx hb dX4_run_101 (by decide) (fun c_101 => ?_) (fun c_101 => (c_101 (congrArg rfI hf9)).elim)
              refine lv_iconst (v := 1) hx hb dX4_run_108 (by decide) ?_
              refine lv_iadd hx hb dX4_run_109 ?_
              refine z_topi (y := nI (doSt bu (0, q.2.1, q.2.2.1, q.2.2.2.1, q.2.2.2.2) ln st (kz + 1)).2.1) (by rw [n9]; exact nI_1 _) ?_
              refine lv_istore_n (lv' := [(1, .int (nI (doSt bu (0, q.2.1, q.2.2.1, q.2.2.2.1, q.2.2.2.2) ln st (kz + 1)).2.1)), (2, .int (rfI (doSt bu (0, q.2.1, q.2.2.1, q.2.2.2.1, q.2.2.2.2) ln st (kz + 1)).2.2)), (0, .ref (ad 0)), (3, .int (nI kz))]) hx hb dX4_run_110 rfl hl (by decide) rfl (fun ls hl => ?_)
              refine lv_iload_n hx hb dX4_run_111 rfl (lv_at hl 3 rfl) ?_
              refine lv_aload_n hx hb dX4_run_112 rfl (lv_at hl 2 rfl) ?_
              refine z_get C0 hP hX.n0 hX.o fd_X4_31 rfl dX4_run_113 ?_
              refine lv_icmp_ge (tgt := 133) hx hb dX4_run_116 (by decide) (fun c_116 => ?_) (fun c_116 => ?_)
              · have hk4 : kz = ln := by have := z_ge_t c_116 (by omega) (by omega); omega
                refine lv_iinc (v := nI (kz + 1)) (lv' := [(3, .int (nI (kz + 1))), (1, .int (nI (doSt bu (0, q.2.1, q.2.2.1, q.2.2.2.1, q.2.2.2.2) ln st (kz + 1)).2.1)), (2, .int (rfI (doSt bu (0, q.2.1, q.2.2.1, q.2.2.2.1, q.2.2.2.2) ln st (kz + 1)).2.2)), (0, .ref (ad 0))]) hx hb dX4_run_133 hl (k := 3) rfl (z_inc _) (by decide) rfl (fun ls hl => ?_)
                refine lv_goto (tgt := 55) hx hb dX4_run_136 (by decide) ?_
                exact ih_55 (kz + 1) (rdEnd bu (0, q.2.1, q.2.2.1, q.2.2.2.1, q.2.2.2.2) kz) (by omega) (fun q => by first | rfl | (exfalso; omega)) (by omega) _ _ _ _ hP hS hX hH hHi hR hTr hSn hFr (lv_sub hl [3, 1, 2, 0] rfl)
              · have hk2 : kz < ln := z_ge_f c_116 (by omega) (by omega)
                refine lv_aload_n hx hb dX4_run_119 rfl (lv_at hl 2 rfl) ?_
                refine z_get C0 hP hX.n0 hX.o fd_X4_38 rfl dX4_run_120 ?_
                refine lv_aload_n hx hb dX4_run_123 rfl (lv_at hl 2 rfl) ?_
                refine z_get C0 hP hX.n0 hX.o fd_X4_27 rfl dX4_run_124 ?_
                refine lv_iload_n hx hb dX4_run_127 rfl (lv_at hl 3 rfl) ?_
                refine z_cald C0 hP hX.n214 hX.a_bu (zIx_nI (by omega) (by decide)) dX4_run_128 ?_
                refine z_Vi_mo (As := [.int (bu kz)]) (rest := []) C0 hP hS hl.1 (m_X3_takes l _ hR (rdOK_end (rdOK0 q.2.1 q.2.2.1 q.2.2.2.1 q.2.2.2.2) kz).st (zchar (hbu kz hk2).1 (hbu kz hk2).2).2.2.1 (zchar (hbu kz hk2).1 (hbu kz hk2).2).2.2.2) lk_X4_127 hR.n0 hR.o rfl rfl (Nat.le_of_ble_eq_true rfl) ⟨Nat.le_of_ble_eq_true rfl, Nat.le_of_ble_eq_true rfl⟩ rfl rfl ⟨Nat.zero_le _, Nat.zero_le _⟩ dX4_run_129 (fun r_129 g_8 H locs hP hS hp => ?_)
                obtain ⟨hp1, hF1⟩ := hp
                have hX := hX.kept hF1 (by first | (dsimp only [zOne, zRg, zCl]; omega) | (dsimp only; omega) | omega)
                have hH := hH.kept hF1 (by intro z9 h8 h9; first | (dsimp only [zOne, zRg, zCl]; omega) | (dsimp only; omega) | omega)
                have hHi := hHi.kept hF1 (by intro z9 h8 h9; first | (dsimp only [zOne, zRg, zCl]; omega) | (dsimp only; omega) | omega)
                have hTr := hTr.kept hF1 (by intro z9 h8 h9; first | (dsimp only [zOne, zRg, zCl]; omega) | (dsimp only; omega) | omega)
                have hSn := hSn.kept hF1 (by intro z9 h8; first | (dsimp only [zOne, zRg, zCl]; omega) | (dsimp only; omega) | omega)
                have hFr := hFr.tr (hF1.mono (by intro x9 hx9; first | (dsimp only [zOne, zRg, zCl] at hx9 ⊢; omega) | (dsimp only at hx9 ⊢; omega) | omega))
                have hR : isR cy K ad g_8 215 (rdEnd bu (0, q.2.1, q.2.2.1, q.2.2.2.1, q.2.2.2.2) (kz + 1)).1 (rdEnd bu (0, q.2.1, q.2.2.1, q.2.2.2.1, q.2.2.2.2) (kz + 1)).2.1 (rdEnd bu (0, q.2.1, q.2.2.1, q.2.2.2.1, q.2.2.2.2) (kz + 1)).2.2.1 (rdEnd bu (0, q.2.1, q.2.2.1, q.2.2.2.1, q.2.2.2.2) (kz + 1)).2.2.2.1 (rdEnd bu (0, q.2.1, q.2.2.1, q.2.2.2.1, q.2.2.2.2) (kz + 1)).2.2.2.2 := (rdPost.next hp1).1
                refine lv_pop hx hb dX4_run_132 rfl ?_
                refine lv_iinc (v := nI (kz + 1)) (lv' := [(3, .int (nI (kz + 1))), (1, .int (nI (doSt bu (0, q.2.1, q.2.2.1, q.2.2.2.1, q.2.2.2.2) ln st (kz + 1)).2.1)), (2, .int (rfI (doSt bu (0, q.2.1, q.2.2.1, q.2.2.2.1, q.2.2.2.2) ln st (kz + 1)).2.2)), (0, .ref (ad 0))]) hx hb dX4_run_133 hl (k := 3) rfl (z_inc _) (by decide) rfl (fun ls hl => ?_)
                refine lv_goto (tgt := 55) hx hb dX4_run_136 (by decide) ?_
                exact ih_55 (kz + 1) (rdEnd bu (0, q.2.1, q.2.2.1, q.2.2.2.1, q.2.2.2.2) (kz + 1)) (by omega) (fun q => by first | rfl | (exfalso; omega)) (by omega) _ _ _ _ hP hS hX hH hHi hR hTr hSn hFr (lv_sub hl [3, 1, 2, 0] rfl)
            · have c9 : ¬ (ordN (doSt bu (0, q.2.1, q.2.2.1, q.2.2.2.1, q.2.2.2.2) ln st kz).1 (rdEnd bu (0, q.2.1, q.2.2.1, q.2.2.2.1, q.2.2.2.2) kz)) 4 = (doSt bu (0, q.2.1, q.2.2.1, q.2.2.2.1, q.2.2.2.2) ln st kz).1 4 := fun c9 => by rw [if_pos c9] at hr9; rw [hr9] at c_90; exact absurd c_90 (by decide)
              have e9 := doSt_b hD hO c9
              have hf9 : (doSt bu (0, q.2.1, q.2.2.1, q.2.2.2.1, q.2.2.2.2) ln st (kz + 1)).2.2 = true := by rw [e9]
              rw [show ordN (doSt bu (0, q.2.1, q.2.2.1, q.2.2.2.1, q.2.2.2.2) ln st kz).1 (rdEnd bu (0, q.2.1, q.2.2.1, q.2.2.2.1, q.2.2.2.2) kz) = (doSt bu (0, q.2.1, q.2.2.1, q.2.2.2.1, q.2.2.2.2) ln st (kz + 1)).1 by rw [e9]] at hH
              have n9 : (doSt bu (0, q.2.1, q.2.2.1, q.2.2.2.1, q.2.2.2.2) ln st (kz + 1)).2.1 = (doSt bu (0, q.2.1, q.2.2.1, q.2.2.2.1, q.2.2.2.2) ln st kz).2.1 := by rw [e9]
              refine lv_iconst (v := 1) hx hb dX4_run_93 (by decide) ?_
              refine lv_goto (tgt := 98) hx hb dX4_run_94 (by decide) ?_
              refine z_topi (y := rfI (doSt bu (0, q.2.1, q.2.2.1, q.2.2.2.1, q.2.2.2.2) ln st (kz + 1)).2.2) ((congrArg rfI hf9).symm) ?_
              refine lv_istore_n (lv' := [(2, .int (rfI (doSt bu (0, q.2.1, q.2.2.1, q.2.2.2.1, q.2.2.2.2) ln st (kz + 1)).2.2)), (0, .ref (ad 0)), (1, .int (nI (doSt bu (0, q.2.1, q.2.2.1, q.2.2.2.1, q.2.2.2.2) ln st kz).2.1)), (3, .int (nI kz))]) hx hb dX4_run_98 rfl hl (by decide) rfl (fun ls hl => ?_)
              refine lv_iload_n hx hb dX4_run_99 rfl (lv_at hl 2 rfl) ?_
              refine lv_iload_n hx hb dX4_run_100 rfl (lv_at hl 0 rfl) ?_
              refine lv_if_eq (tgt := 108) hx hb dX4_run_101 (by decide) (fun c_101 => absurd ((congrArg rfI hf9).symm.trans c_101) (by decide)) (fun c_101 => ?_)
              refine lv_iconst (v := 0) hx hb dX4_run_104 (by decide) ?_
              refine lv_goto (tgt := 109) hx hb dX4_run_105 (by decide) ?_
              refine lv_iadd hx hb dX4_run_109 ?_
              refine z_topi (y := nI (doSt bu (0, q.2.1, q.2.2.1, q.2.2.2.1, q.2.2.2.2) ln st (kz + 1)).2.1) (by rw [n9]; exact Int32.add_zero _) ?_
              refine lv_istore_n (lv' := [(1, .int (nI (doSt bu (0, q.2.1, q.2.2.1, q.2.2.2.1, q.2.2.2.2) ln st (kz + 1)).2.1)), (2, .int (rfI (doSt bu (0, q.2.1, q.2.2.1, q.2.2.2.1, q.2.2.2.2) ln st (kz + 1)).2.2)), (0, .ref (ad 0)), (3, .int (nI kz))]) hx hb dX4_run_110 rfl hl (by decide) rfl (fun ls hl => ?_)
              refine lv_iload_n hx hb dX4_run_111 rfl (lv_at hl 3 rfl) ?_
              refine lv_aload_n hx hb dX4_run_112 rfl (lv_at hl 2 rfl) ?_
              refine z_get C0 hP hX.n0 hX.o fd_X4_31 rfl dX4_run_113 ?_
              refine lv_icmp_ge (tgt := 133) hx hb dX4_run_116 (by decide) (fun c_116 => ?_) (fun c_116 => ?_)
              · have hk4 : kz = ln := by have := z_ge_t c_116 (by omega) (by omega); omega
                refine lv_iinc (v := nI (kz + 1)) (lv' := [(3, .int (nI (kz + 1))), (1, .int (nI (doSt bu (0, q.2.1, q.2.2.1, q.2.2.2.1, q.2.2.2.2) ln st (kz + 1)).2.1)), (2, .int (rfI (doSt bu (0, q.2.1, q.2.2.1, q.2.2.2.1, q.2.2.2.2) ln st (kz + 1)).2.2)), (0, .ref (ad 0))]) hx hb dX4_run_133 hl (k := 3) rfl (z_inc _) (by decide) rfl (fun ls hl => ?_)
                refine lv_goto (tgt := 55) hx hb dX4_run_136 (by decide) ?_
                exact ih_55 (kz + 1) (rdEnd bu (0, q.2.1, q.2.2.1, q.2.2.2.1, q.2.2.2.2) kz) (by omega) (fun q => by first | rfl | (exfalso; omega)) (by omega) _ _ _ _ hP hS hX hH hHi hR hTr hSn hFr (lv_sub hl [3, 1, 2, 0] rfl)
              · have hk2 : kz < ln := z_ge_f c_116 (by omega) (by omega)
                refine lv_aload_n hx hb dX4_run_119 rfl (lv_at hl 2 rfl) ?_
                refine z_get C0 hP hX.n0 hX.o fd_X4_38 rfl dX4_run_120 ?_
                refine lv_aload_n hx hb dX4_run_123 rfl (lv_at hl 2 rfl) ?_
                refine z_get C0 hP hX.n0 hX.o fd_X4_27 rfl dX4_run_124 ?_
                refine lv_iload_n hx hb dX4_run_127 rfl (lv_at hl 3 rfl) ?_
                refine z_cald C0 hP hX.n214 hX.a_bu (zIx_nI (by omega) (by decide)) dX4_run_128 ?_
                refine z_Vi_mo (As := [.int (bu kz)]) (rest := []) C0 hP hS hl.1 (m_X3_takes l _ hR (rdOK_end (rdOK0 q.2.1 q.2.2.1 q.2.2.2.1 q.2.2.2.2) kz).st (zchar (hbu kz hk2).1 (hbu kz hk2).2).2.2.1 (zchar (hbu kz hk2).1 (hbu kz hk2).2).2.2.2) lk_X4_127 hR.n0 hR.o rfl rfl (Nat.le_of_ble_eq_true rfl) ⟨Nat.le_of_ble_eq_true rfl, Nat.le_of_ble_eq_true rfl⟩ rfl rfl ⟨Nat.zero_le _, Nat.zero_le _⟩ dX4_run_129 (fun r_129 g_9 H locs hP hS hp => ?_)
                obtain ⟨hp1, hF1⟩ := hp
                have hX := hX.kept hF1 (by first | (dsimp only [zOne, zRg, zCl]; omega) | (dsimp only; omega) | omega)
                have hH := hH.kept hF1 (by intro z9 h8 h9; first | (dsimp only [zOne, zRg, zCl]; omega) | (dsimp only; omega) | omega)
                have hHi := hHi.kept hF1 (by intro z9 h8 h9; first | (dsimp only [zOne, zRg, zCl]; omega) | (dsimp only; omega) | omega)
                have hTr := hTr.kept hF1 (by intro z9 h8 h9; first | (dsimp only [zOne, zRg, zCl]; omega) | (dsimp only; omega) | omega)
                have hSn := hSn.kept hF1 (by intro z9 h8; first | (dsimp only [zOne, zRg, zCl]; omega) | (dsimp only; omega) | omega)
                have hFr := hFr.tr (hF1.mono (by intro x9 hx9; first | (dsimp only [zOne, zRg, zCl] at hx9 ⊢; omega) | (dsimp only at hx9 ⊢; omega) | omega))
                have hR : isR cy K ad g_9 215 (rdEnd bu (0, q.2.1, q.2.2.1, q.2.2.2.1, q.2.2.2.2) (kz + 1)).1 (rdEnd bu (0, q.2.1, q.2.2.1, q.2.2.2.1, q.2.2.2.2) (kz + 1)).2.1 (rdEnd bu (0, q.2.1, q.2.2.1, q.2.2.2.1, q.2.2.2.2) (kz + 1)).2.2.1 (rdEnd bu (0, q.2.1, q.2.2.1, q.2.2.2.1, q.2.2.2.2) (kz + 1)).2.2.2.1 (rdEnd bu (0, q.2.1, q.2.2.1, q.2.2.2.1, q.2.2.2.2) (kz + 1)).2.2.2.2 := (rdPost.next hp1).1
                refine lv_pop hx hb dX4_run_132 rfl ?_
                refine lv_iinc (v := nI (kz + 1)) (lv' := [(3, .int (nI (kz + 1))), (1, .int (nI (doSt bu (0, q.2.1, q.2.2.1, q.2.2.2.1, q.2.2.2.2) ln st (kz + 1)).2.1)), (2, .int (rfI (doSt bu (0, q.2.1, q.2.2.1, q.2.2.2.1, q.2.2.2.2) ln st (kz + 1)).2.2)), (0, .ref (ad 0))]) hx hb dX4_run_133 hl (k := 3) rfl (z_inc _) (by decide) rfl (fun ls hl => ?_)
                refine lv_goto (tgt := 55) hx hb dX4_run_136 (by decide) ?_
                exact ih_55 (kz + 1) (rdEnd bu (0, q.2.1, q.2.2.1, q.2.2.2.1, q.2.2.2.2) (kz + 1)) (by omega) (fun q => by first | rfl | (exfalso; omega)) (by omega) _ _ _ _ hP hS hX hH hHi hR hTr hSn hFr (lv_sub hl [3, 1, 2, 0] rfl)
          · have hk2 : kz < ln := by have : kz ≠ ln := fun q => c_72 (congrArg nI q); omega
            refine lv_aload_n hx hb dX4_run_75 rfl (lv_at hl 0 rfl) ?_
            refine z_get C0 hP hX.n0 hX.o fd_X4_27 rfl dX4_run_76 ?_
            refine lv_iload_n hx hb dX4_run_79 rfl (lv_at hl 3 rfl) ?_
            refine z_cald C0 hP hX.n214 hX.a_bu (zIx_nI (by omega) (by decide)) dX4_run_80 ?_
            refine lv_bipush (v := 59) hx hb dX4_run_81 (by decide) ?_
            refine lv_icmp_ne (tgt := 111) hx hb dX4_run_83 (by decide) (fun c_83 => ?_) (fun c_83 => ?_)
            · have hO : ¬ (kz = ln ∨ bu kz = 59) := fun q => q.elim (fun q => by omega) c_83
              have e9 := doSt_c (s := (0, q.2.1, q.2.2.1, q.2.2.2.1, q.2.2.2.2)) (st := st) hO
              rw [← e9] at hH
              have hsR := hs (by omega)
              subst hsR
              rw [← e9] at hl
              refine lv_iload_n hx hb dX4_run_111 rfl (lv_at hl 3 rfl) ?_
              refine lv_aload_n hx hb dX4_run_112 rfl (lv_at hl 0 rfl) ?_
              refine z_get C0 hP hX.n0 hX.o fd_X4_31 rfl dX4_run_113 ?_
              refine lv_icmp_ge (tgt := 133) hx hb dX4_run_116 (by decide) (fun c_116 => ?_) (fun c_116 => ?_)
              · have hk4 : kz = ln := by have := z_ge_t c_116 (by omega) (by omega); omega
                refine lv_iinc (v := nI (kz + 1)) (lv' := [(3, .int (nI (kz + 1))), (0, .ref (ad 0)), (1, .int (nI (doSt bu (0, q.2.1, q.2.2.1, q.2.2.2.1, q.2.2.2.2) ln st (kz + 1)).2.1)), (2, .int (rfI (doSt bu (0, q.2.1, q.2.2.1, q.2.2.2.1, q.2.2.2.2) ln st (kz + 1)).2.2))]) hx hb dX4_run_133 hl (k := 3) rfl (z_inc _) (by decide) rfl (fun ls hl => ?_)
                refine lv_goto (tgt := 55) hx hb dX4_run_136 (by decide) ?_
                exact ih_55 (kz + 1) (rdEnd bu (0, q.2.1, q.2.2.1, q.2.2.2.1, q.2.2.2.2) kz) (by omega) (fun q => by first | rfl | (exfalso; omega)) (by omega) _ _ _ _ hP hS hX hH hHi hR hTr hSn hFr (lv_sub hl [1, 2, 3, 0] rfl)
              · have hk2 : kz < ln := z_ge_f c_116 (by omega) (by omega)
                refine lv_aload_n hx hb dX4_run_119 rfl (lv_at hl 0 rfl) ?_
                refine z_get C0 hP hX.n0 hX.o fd_X4_38 rfl dX4_run_120 ?_
                refine lv_aload_n hx hb dX4_run_123 rfl (lv_at hl 0 rfl) ?_
                refine z_get C0 hP hX.n0 hX.o fd_X4_27 rfl dX4_run_124 ?_
                refine lv_iload_n hx hb dX4_run_127 rfl (lv_at hl 3 rfl) ?_
                refine z_cald C0 hP hX.n214 hX.a_bu (zIx_nI (by omega) (by decide)) dX4_run_128 ?_
                refine z_Vi_mo (As := [.int (bu kz)]) (rest := []) C0 hP hS hl.1 (m_X3_takes l _ hR (rdOK_end (rdOK0 q.2.1 q.2.2.1 q.2.2.2.1 q.2.2.2.2) kz).st (zchar (hbu kz hk2).1 (hbu kz hk2).2).2.2.1 (zchar (hbu kz hk2).1 (hbu kz hk2).2).2.2.2) lk_X4_127 hR.n0 hR.o rfl rfl (Nat.le_of_ble_eq_true rfl) ⟨Nat.le_of_ble_eq_true rfl, Nat.le_of_ble_eq_true rfl⟩ rfl rfl ⟨Nat.zero_le _, Nat.zero_le _⟩ dX4_run_129 (fun r_129 g_10 H locs hP hS hp => ?_)
                obtain ⟨hp1, hF1⟩ := hp
                have hX := hX.kept hF1 (by first | (dsimp only [zOne, zRg, zCl]; omega) | (dsimp only; omega) | omega)
                have hH := hH.kept hF1 (by intro z9 h8 h9; first | (dsimp only [zOne, zRg, zCl]; omega) | (dsimp only; omega) | omega)
                have hHi := hHi.kept hF1 (by intro z9 h8 h9; first | (dsimp only [zOne, zRg, zCl]; omega) | (dsimp only; omega) | omega)
                have hTr := hTr.kept hF1 (by intro z9 h8 h9; first | (dsimp only [zOne, zRg, zCl]; omega) | (dsimp only; omega) | omega)
                have hSn := hSn.kept hF1 (by intro z9 h8; first | (dsimp only [zOne, zRg, zCl]; omega) | (dsimp only; omega) | omega)
                have hFr := hFr.tr (hF1.mono (by intro x9 hx9; first | (dsimp only [zOne, zRg, zCl] at hx9 ⊢; omega) | (dsimp only at hx9 ⊢; omega) | omega))
                have hR : isR cy K ad g_10 215 (rdEnd bu (0, q.2.1, q.2.2.1, q.2.2.2.1, q.2.2.2.2) (kz + 1)).1 (rdEnd bu (0, q.2.1, q.2.2.1, q.2.2.2.1, q.2.2.2.2) (kz + 1)).2.1 (rdEnd bu (0, q.2.1, q.2.2.1, q.2.2.2.1, q.2.2.2.2) (kz + 1)).2.2.1 (rdEnd bu (0, q.2.1, q.2.2.1, q.2.2.2.1, q.2.2.2.2) (kz + 1)).2.2.2.1 (rdEnd bu (0, q.2.1, q.2.2.1, q.2.2.2.1, q.2.2.2.2) (kz + 1)).2.2.2.2 := (rdPost.next hp1).1
                refine lv_pop hx hb dX4_run_132 rfl ?_
                refine lv_iinc (v := nI (kz + 1)) (lv' := [(3, .int (nI (kz + 1))), (0, .ref (ad 0)), (1, .int (nI (doSt bu (0, q.2.1, q.2.2.1, q.2.2.2.1, q.2.2.2.2) ln st (kz + 1)).2.1)), (2, .int (rfI (doSt bu (0, q.2.1, q.2.2.1, q.2.2.2.1, q.2.2.2.2) ln st (kz + 1)).2.2))]) hx hb dX4_run_133 hl (k := 3) rfl (z_inc _) (by decide) rfl (fun ls hl => ?_)
                refine lv_goto (tgt := 55) hx hb dX4_run_136 (by decide) ?_
                exact ih_55 (kz + 1) (rdEnd bu (0, q.2.1, q.2.2.1, q.2.2.2.1, q.2.2.2.2) (kz + 1)) (by omega) (fun q => by first | rfl | (exfalso; omega)) (by omega) _ _ _ _ hP hS hX hH hHi hR hTr hSn hFr (lv_sub hl [1, 2, 3, 0] rfl)
            · have hO : kz = ln ∨ bu kz = 59 := Or.inr c_83
              refine lv_aload_n hx hb dX4_run_86 rfl (lv_at hl 0 rfl) ?_
              have hsR := hs (by omega)
              subst hsR
              have h9 := at_ord (rdOK0 q.2.1 q.2.2.1 q.2.2.2.1 q.2.2.2.2) hE2q h3q (by omega) hO
              obtain ⟨o1, o2, o3, o4, o5⟩ := ord_c (rdOK_end (bu := bu) (rdOK0 q.2.1 q.2.2.1 q.2.2.2.1 q.2.2.2.2) kz) h9
              have hpk := pcOK_doSt (st := st) hpc (rdOK0 q.2.1 q.2.2.1 q.2.2.2.1 q.2.2.2.2) hE2q h3q kz (by omega)
              rw [o1] at hR
              refine z_Vi_mo (As := []) (rest := []) C0 hP hS hl.1 (m_X4_doOrderRead l _ hX hH hR o2 o3 o4 o5 hpk) lk_X4_124 hX.n0 hX.o rfl rfl (Nat.le_of_ble_eq_true rfl) ⟨Nat.le_of_ble_eq_true rfl, Nat.le_of_ble_eq_true rfl⟩ rfl rfl ⟨Nat.zero_le _, Nat.zero_le _⟩ dX4_run_87 (fun r_87 g_11 H locs hP hS hp => ?_)
              obtain ⟨hr_87, hH, hF1⟩ := hp
              have hX := hX.kept hF1 (by first | (dsimp only [zOne, zRg, zCl]; omega) | (dsimp only; omega) | omega)
              have hHi := hHi.kept hF1 (by intro z9 h8 h9; first | (dsimp only [zOne, zRg, zCl]; omega) | (dsimp only; omega) | omega)
              have hR := hR.kept hF1 (by first | (dsimp only [zOne, zRg, zCl]; omega) | (dsimp only; omega) | omega)
              have hTr := hTr.kept hF1 (by intro z9 h8 h9; first | (dsimp only [zOne, zRg, zCl]; omega) | (dsimp only; omega) | omega)
              have hSn := hSn.kept hF1 (by intro z9 h8; first | (dsimp only [zOne, zRg, zCl]; omega) | (dsimp only; omega) | omega)
              have hFr := hFr.tr (hF1.mono (by intro x9 hx9; first | (dsimp only [zOne, zRg, zCl] at hx9 ⊢; omega) | (dsimp only at hx9 ⊢; omega) | omega))
              have hH : isH cy K ad g_11 1 (ordN (doSt bu (0, q.2.1, q.2.2.1, q.2.2.2.1, q.2.2.2.2) ln st kz).1 (rdEnd bu (0, q.2.1, q.2.2.1, q.2.2.2.1, q.2.2.2.2) kz)) := hH
              rw [← o1] at hR
              have hr9 : r_87 = (if (ordN (doSt bu (0, q.2.1, q.2.2.1, q.2.2.2.1, q.2.2.2.2) ln st kz).1 (rdEnd bu (0, q.2.1, q.2.2.1, q.2.2.2.1, q.2.2.2.2) kz)) 4 = (doSt bu (0, q.2.1, q.2.2.1, q.2.2.2.1, q.2.2.2.2) ln st kz).1 4 then 1 else 0) := hr_87
              refine lv_if_ne (tgt := 97) hx hb dX4_run_90 (by decide) (fun c_90 => ?_) (fun c_90 => ?_)
              · have c9 : (ordN (doSt bu (0, q.2.1, q.2.2.1, q.2.2.2.1, q.2.2.2.2) ln st kz).1 (rdEnd bu (0, q.2.1, q.2.2.1, q.2.2.2.1, q.2.2.2.2) kz)) 4 = (doSt bu (0, q.2.1, q.2.2.1, q.2.2.2.1, q.2.2.2.2) ln st kz).1 4 := by by_cases c9 : (ordN (doSt bu (0, q.2.1, q.2.2.1, q.2.2.2.1, q.2.2.2.2) ln st kz).1 (rdEnd bu (0, q.2.1, q.2.2.1, q.2.2.2.1, q.2.2.2.2) kz)) 4 = (doSt bu (0, q.2.1, q.2.2.1, q.2.2.2.1, q.2.2.2.2) ln st kz).1 4; exact c9; rw [if_neg c9] at hr9; exact absurd hr9 c_90
                have e9 := doSt_a hD hO c9
                have hf9 : (doSt bu (0, q.2.1, q.2.2.1, q.2.2.2.1, q.2.2.2.2) ln st (kz + 1)).2.2 = false := by rw [e9]
                rw [show ordN (doSt bu (0, q.2.1, q.2.2.1, q.2.2.2.1, q.2.2.2.2) ln st kz).1 (rdEnd bu (0, q.2.1, q.2.2.1, q.2.2.2.1, q.2.2.2.2) kz) = (doSt bu (0, q.2.1, q.2.2.1, q.2.2.2.1, q.2.2.2.2) ln st (kz + 1)).1 by rw [e9]] at hH
                have n9 : (doSt bu (0, q.2.1, q.2.2.1, q.2.2.2.1, q.2.2.2.2) ln st (kz + 1)).2.1 = (doSt bu (0, q.2.1, q.2.2.1, q.2.2.2.1, q.2.2.2.2) ln st kz).2.1 + 1 := by rw [e9]
                refine lv_iconst (v := 0) hx hb dX4_run_97 (by decide) ?_
                refine z_topi (y := rfI (doSt bu (0, q.2.1, q.2.2.1, q.2.2.2.1, q.2.2.2.2) ln st (kz + 1)).2.2) ((congrArg rfI hf9).symm) ?_
                refine lv_istore_n (lv' := [(2, .int (rfI (doSt bu (0, q.2.1, q.2.2.1, q.2.2.2.1, q.2.2.2.2) ln st (kz + 1)).2.2)), (0, .ref (ad 0)), (1, .int (nI (doSt bu (0, q.2.1, q.2.2.1, q.2.2.2.1, q.2.2.2.2) ln st kz).2.1)), (3, .int (nI kz))]) hx hb dX4_run_98 rfl hl (by decide) rfl (fun ls hl => ?_)
                refine lv_iload_n hx hb dX4_run_99 rfl (lv_at hl 2 rfl) ?_
                refine lv_iload_n hx hb dX4_run_100 rfl (lv_at hl 0 rfl) ?_
                refine lv_if_eq (tgt := 108) hx hb dX4_run_101 (by decide) (fun c_101 => ?_) (fun c_101 => (c_101 (congrArg rfI hf9)).elim)
                refine lv_iconst (v := 1) hx hb dX4_run_108 (by decide) ?_
                refine lv_iadd hx hb dX4_run_109 ?_
                refine z_topi (y := nI (doSt bu (0, q.2.1, q.2.2.1, q.2.2.2.1, q.2.2.2.2) ln st (kz + 1)).2.1) (by rw [n9]; exact nI_1 _) ?_
                refine lv_istore_n (lv' := [(1, .int (nI (doSt bu (0, q.2.1, q.2.2.1, q.2.2.2.1, q.2.2.2.2) ln st (kz + 1)).2.1)), (2, .int (rfI (doSt bu (0, q.2.1, q.2.2.1, q.2.2.2.1, q.2.2.2.2) ln st (kz + 1)).2.2)), (0, .ref (ad 0)), (3, .int (nI kz))]) hx hb dX4_run_110 rfl hl (by decide) rfl (fun ls hl => ?_)
                refine lv_iload_n hx hb dX4_run_111 rfl (lv_at hl 3 rfl) ?_
                refine lv_aload_n hx hb dX4_run_112 rfl (lv_at hl 2 rfl) ?_
                refine z_get C0 hP hX.n0 hX.o fd_X4_31 rfl dX4_run_113 ?_
                refine lv_icmp_ge (tgt := 133) hx hb dX4_run_116 (by decide) (fun c_116 => ?_) (fun c_116 => ?_)
                · have hk4 : kz = ln := by have := z_ge_t c_116 (by omega) (by omega); omega
                  refine lv_iinc (v := nI (kz + 1)) (lv' := [(3, .int (nI (kz + 1))), (1, .int (nI (doSt bu (0, q.2.1, q.2.2.1, q.2.2.2.1, q.2.2.2.2) ln st (kz + 1)).2.1)), (2, .int (rfI (doSt bu (0, q.2.1, q.2.2.1, q.2.2.2.1, q.2.2.2.2) ln st (kz + 1)).2.2)), (0, .ref (ad 0))]) hx hb dX4_run_133 hl (k := 3) rfl (z_inc _) (by decide) rfl (fun ls hl => ?_)
                  refine lv_goto (tgt := 55) hx hb dX4_run_136 (by decide) ?_
                  exact ih_55 (kz + 1) (rdEnd bu (0, q.2.1, q.2.2.1, q.2.2.2.1, q.2.2.2.2) kz) (by omega) (fun q => by first | rfl | (exfalso; omega)) (by omega) _ _ _ _ hP hS hX hH hHi hR hTr hSn hFr (lv_sub hl [3, 1, 2, 0] rfl)
                · have hk2 : kz < ln := z_ge_f c_116 (by omega) (by omega)
                  refine lv_aload_n hx hb dX4_run_119 rfl (lv_at hl 2 rfl) ?_
                  refine z_get C0 hP hX.n0 hX.o fd_X4_38 rfl dX4_run_120 ?_
                  refine lv_aload_n hx hb dX4_run_123 rfl (lv_at hl 2 rfl) ?_
                  refine z_get C0 hP hX.n0 hX.o fd_X4_27 rfl dX4_run_124 ?_
                  refine lv_iload_n hx hb dX4_run_127 rfl (lv_at hl 3 rfl) ?_
                  refine z_cald C0 hP hX.n214 hX.a_bu (zIx_nI (by omega) (by decide)) dX4_run_128 ?_
                  refine z_Vi_mo (As := [.int (bu kz)]) (rest := []) C0 hP hS hl.1 (m_X3_takes l _ hR (rdOK_end (rdOK0 q.2.1 q.2.2.1 q.2.2.2.1 q.2.2.2.2) kz).st (zchar (hbu kz hk2).1 (hbu kz hk2).2).2.2.1 (zchar (hbu kz hk2).1 (hbu kz hk2).2).2.2.2) lk_X4_127 hR.n0 hR.o rfl rfl (Nat.le_of_ble_eq_true rfl) ⟨Nat.le_of_ble_eq_true rfl, Nat.le_of_ble_eq_true rfl⟩ rfl rfl ⟨Nat.zero_le _, Nat.zero_le _⟩ dX4_run_129 (fun r_129 g_12 H locs hP hS hp => ?_)
                  obtain ⟨hp1, hF1⟩ := hp
                  have hX := hX.kept hF1 (by first | (dsimp only [zOne, zRg, zCl]; omega) | (dsimp only; omega) | omega)
                  have hH := hH.kept hF1 (by intro z9 h8 h9; first | (dsimp only [zOne, zRg, zCl]; omega) | (dsimp only; omega) | omega)
                  have hHi := hHi.kept hF1 (by intro z9 h8 h9; first | (dsimp only [zOne, zRg, zCl]; omega) | (dsimp only; omega) | omega)
                  have hTr := hTr.kept hF1 (by intro z9 h8 h9; first | (dsimp only [zOne, zRg, zCl]; omega) | (dsimp only; omega) | omega)
                  have hSn := hSn.kept hF1 (by intro z9 h8; first | (dsimp only [zOne, zRg, zCl]; omega) | (dsimp only; omega) | omega)
                  have hFr := hFr.tr (hF1.mono (by intro x9 hx9; first | (dsimp only [zOne, zRg, zCl] at hx9 ⊢; omega) | (dsimp only at hx9 ⊢; omega) | omega))
                  have hR : isR cy K ad g_12 215 (rdEnd bu (0, q.2.1, q.2.2.1, q.2.2.2.1, q.2.2.2.2) (kz + 1)).1 (rdEnd bu (0, q.2.1, q.2.2.1, q.2.2.2.1, q.2.2.2.2) (kz + 1)).2.1 (rdEnd bu (0, q.2.1, q.2.2.1, q.2.2.2.1, q.2.2.2.2) (kz + 1)).2.2.1 (rdEnd bu (0, q.2.1, q.2.2.1, q.2.2.2.1, q.2.2.2.2) (kz + 1)).2.2.2.1 (rdEnd bu (0, q.2.1, q.2.2.1, q.2.2.2.1, q.2.2.2.2) (kz + 1)).2.2.2.2 := (rdPost.next hp1).1
                  refine lv_pop hx hb dX4_run_132 rfl ?_
                  refine lv_iinc (v := nI (kz + 1)) (lv' := [(3, .int (nI (kz + 1))), (1, .int (nI (doSt bu (0, q.2.1, q.2.2.1, q.2.2.2.1, q.2.2.2.2) ln st (kz + 1)).2.1)), (2, .int (rfI (doSt bu (0, q.2.1, q.2.2.1, q.2.2.2.1, q.2.2.2.2) ln st (kz + 1)).2.2)), (0, .ref (ad 0))]) hx hb dX4_run_133 hl (k := 3) rfl (z_inc _) (by decide) rfl (fun ls hl => ?_)
                  refine lv_goto (tgt := 55) hx hb dX4_run_136 (by decide) ?_
                  exact ih_55 (kz + 1) (rdEnd bu (0, q.2.1, q.2.2.1, q.2.2.2.1, q.2.2.2.2) (kz + 1)) (by omega) (fun q => by first | rfl | (exfalso; omega)) (by omega) _ _ _ _ hP hS hX hH hHi hR hTr hSn hFr (lv_sub hl [3, 1, 2, 0] rfl)
              · have c9 : ¬ (ordN (doSt bu (0, q.2.1, q.2.2.1, q.2.2.2.1, q.2.2.2.2) ln st kz).1 (rdEnd bu (0, q.2.1, q.2.2.1, q.2.2.2.1, q.2.2.2.2) kz)) 4 = (doSt bu (0, q.2.1, q.2.2.1, q.2.2.2.1, q.2.2.2.2) ln st kz).1 4 := fun c9 => by rw [if_pos c9] at hr9; rw [hr9] at c_90; exact absurd c_90 (by decide)
                have e9 := doSt_b hD hO c9
                have hf9 : (doSt bu (0, q.2.1, q.2.2.1, q.2.2.2.1, q.2.2.2.2) ln st (kz + 1)).2.2 = true := by rw [e9]
                rw [show ordN (doSt bu (0, q.2.1, q.2.2.1, q.2.2.2.1, q.2.2.2.2) ln st kz).1 (rdEnd bu (0, q.2.1, q.2.2.1, q.2.2.2.1, q.2.2.2.2) kz) = (doSt bu (0, q.2.1, q.2.2.1, q.2.2.2.1, q.2.2.2.2) ln st (kz + 1)).1 by rw [e9]] at hH
                have n9 : (doSt bu (0, q.2.1, q.2.2.1, q.2.2.2.1, q.2.2.2.2) ln st (kz + 1)).2.1 = (doSt bu (0, q.2.1, q.2.2.1, q.2.2.2.1, q.2.2.2.2) ln st kz).2.1 := by rw [e9]
                refine lv_iconst (v := 1) hx hb dX4_run_93 (by decide) ?_
                refine lv_goto (tgt := 98) hx hb dX4_run_94 (by decide) ?_
                refine z_topi (y := rfI (doSt bu (0, q.2.1, q.2.2.1, q.2.2.2.1, q.2.2.2.2) ln st (kz + 1)).2.2) ((congrArg rfI hf9).symm) ?_
                refine lv_istore_n (lv' := [(2, .int (rfI (doSt bu (0, q.2.1, q.2.2.1, q.2.2.2.1, q.2.2.2.2) ln st (kz + 1)).2.2)), (0, .ref (ad 0)), (1, .int (nI (doSt bu (0, q.2.1, q.2.2.1, q.2.2.2.1, q.2.2.2.2) ln st kz).2.1)), (3, .int (nI kz))]) hx hb dX4_run_98 rfl hl (by decide) rfl (fun ls hl => ?_)
                refine lv_iload_n hx hb dX4_run_99 rfl (lv_at hl 2 rfl) ?_
                refine lv_iload_n hx hb dX4_run_100 rfl (lv_at hl 0 rfl) ?_
                refine lv_if_eq (tgt := 108) hx hb dX4_run_101 (by decide) (fun c_101 => absurd ((congrArg rfI hf9).symm.trans c_101) (by decide)) (fun c_101 => ?_)
                refine lv_iconst (v := 0) hx hb dX4_run_104 (by decide) ?_
                refine lv_goto (tgt := 109) hx hb dX4_run_105 (by decide) ?_
                refine lv_iadd hx hb dX4_run_109 ?_
                refine z_topi (y := nI (doSt bu (0, q.2.1, q.2.2.1, q.2.2.2.1, q.2.2.2.2) ln st (kz + 1)).2.1) (by rw [n9]; exact Int32.add_zero _) ?_
                refine lv_istore_n (lv' := [(1, .int (nI (doSt bu (0, q.2.1, q.2.2.1, q.2.2.2.1, q.2.2.2.2) ln st (kz + 1)).2.1)), (2, .int (rfI (doSt bu (0, q.2.1, q.2.2.1, q.2.2.2.1, q.2.2.2.2) ln st (kz + 1)).2.2)), (0, .ref (ad 0)), (3, .int (nI kz))]) hx hb dX4_run_110 rfl hl (by decide) rfl (fun ls hl => ?_)
                refine lv_iload_n hx hb dX4_run_111 rfl (lv_at hl 3 rfl) ?_
                refine lv_aload_n hx hb dX4_run_112 rfl (lv_at hl 2 rfl) ?_
                refine z_get C0 hP hX.n0 hX.o fd_X4_31 rfl dX4_run_113 ?_
                refine lv_icmp_ge (tgt := 133) hx hb dX4_run_116 (by decide) (fun c_116 => ?_) (fun c_116 => ?_)
                · have hk4 : kz = ln := by have := z_ge_t c_116 (by omega) (by omega); omega
                  refine lv_iinc (v := nI (kz + 1)) (lv' := [(3, .int (nI (kz + 1))), (1, .int (nI (doSt bu (0, q.2.1, q.2.2.1, q.2.2.2.1, q.2.2.2.2) ln st (kz + 1)).2.1)), (2, .int (rfI (doSt bu (0, q.2.1, q.2.2.1, q.2.2.2.1, q.2.2.2.2) ln st (kz + 1)).2.2)), (0, .ref (ad 0))]) hx hb dX4_run_133 hl (k := 3) rfl (z_inc _) (by decide) rfl (fun ls hl => ?_)
                  refine lv_goto (tgt := 55) hx hb dX4_run_136 (by decide) ?_
                  exact ih_55 (kz + 1) (rdEnd bu (0, q.2.1, q.2.2.1, q.2.2.2.1, q.2.2.2.2) kz) (by omega) (fun q => by first | rfl | (exfalso; omega)) (by omega) _ _ _ _ hP hS hX hH hHi hR hTr hSn hFr (lv_sub hl [3, 1, 2, 0] rfl)
                · have hk2 : kz < ln := z_ge_f c_116 (by omega) (by omega)
                  refine lv_aload_n hx hb dX4_run_119 rfl (lv_at hl 2 rfl) ?_
                  refine z_get C0 hP hX.n0 hX.o fd_X4_38 rfl dX4_run_120 ?_
                  refine lv_aload_n hx hb dX4_run_123 rfl (lv_at hl 2 rfl) ?_
                  refine z_get C0 hP hX.n0 hX.o fd_X4_27 rfl dX4_run_124 ?_
                  refine lv_iload_n hx hb dX4_run_127 rfl (lv_at hl 3 rfl) ?_
                  refine z_cald C0 hP hX.n214 hX.a_bu (zIx_nI (by omega) (by decide)) dX4_run_128 ?_
                  refine z_Vi_mo (As := [.int (bu kz)]) (rest := []) C0 hP hS hl.1 (m_X3_takes l _ hR (rdOK_end (rdOK0 q.2.1 q.2.2.1 q.2.2.2.1 q.2.2.2.2) kz).st (zchar (hbu kz hk2).1 (hbu kz hk2).2).2.2.1 (zchar (hbu kz hk2).1 (hbu kz hk2).2).2.2.2) lk_X4_127 hR.n0 hR.o rfl rfl (Nat.le_of_ble_eq_true rfl) ⟨Nat.le_of_ble_eq_true rfl, Nat.le_of_ble_eq_true rfl⟩ rfl rfl ⟨Nat.zero_le _, Nat.zero_le _⟩ dX4_run_129 (fun r_129 g_13 H locs hP hS hp => ?_)
                  obtain ⟨hp1, hF1⟩ := hp
                  have hX := hX.kept hF1 (by first | (dsimp only [zOne, zRg, zCl]; omega) | (dsimp only; omega) | omega)
                  have hH := hH.kept hF1 (by intro z9 h8 h9; first | (dsimp only [zOne, zRg, zCl]; omega) | (dsimp only; omega) | omega)
                  have hHi := hHi.kept hF1 (by intro z9 h8 h9; first | (dsimp only [zOne, zRg, zCl]; omega) | (dsimp only; omega) | omega)
                  have hTr := hTr.kept hF1 (by intro z9 h8 h9; first | (dsimp only [zOne, zRg, zCl]; omega) | (dsimp only; omega) | omega)
                  have hSn := hSn.kept hF1 (by intro z9 h8; first | (dsimp only [zOne, zRg, zCl]; omega) | (dsimp only; omega) | omega)
                  have hFr := hFr.tr (hF1.mono (by intro x9 hx9; first | (dsimp only [zOne, zRg, zCl] at hx9 ⊢; omega) | (dsimp only at hx9 ⊢; omega) | omega))
                  have hR : isR cy K ad g_13 215 (rdEnd bu (0, q.2.1, q.2.2.1, q.2.2.2.1, q.2.2.2.2) (kz + 1)).1 (rdEnd bu (0, q.2.1, q.2.2.1, q.2.2.2.1, q.2.2.2.2) (kz + 1)).2.1 (rdEnd bu (0, q.2.1, q.2.2.1, q.2.2.2.1, q.2.2.2.2) (kz + 1)).2.2.1 (rdEnd bu (0, q.2.1, q.2.2.1, q.2.2.2.1, q.2.2.2.2) (kz + 1)).2.2.2.1 (rdEnd bu (0, q.2.1, q.2.2.1, q.2.2.2.1, q.2.2.2.2) (kz + 1)).2.2.2.2 := (rdPost.next hp1).1
                  refine lv_pop hx hb dX4_run_132 rfl ?_
                  refine lv_iinc (v := nI (kz + 1)) (lv' := [(3, .int (nI (kz + 1))), (1, .int (nI (doSt bu (0, q.2.1, q.2.2.1, q.2.2.2.1, q.2.2.2.2) ln st (kz + 1)).2.1)), (2, .int (rfI (doSt bu (0, q.2.1, q.2.2.1, q.2.2.2.1, q.2.2.2.2) ln st (kz + 1)).2.2)), (0, .ref (ad 0))]) hx hb dX4_run_133 hl (k := 3) rfl (z_inc _) (by decide) rfl (fun ls hl => ?_)
                  refine lv_goto (tgt := 55) hx hb dX4_run_136 (by decide) ?_
                  exact ih_55 (kz + 1) (rdEnd bu (0, q.2.1, q.2.2.1, q.2.2.2.1, q.2.2.2.2) (kz + 1)) (by omega) (fun q => by first | rfl | (exfalso; omega)) (by omega) _ _ _ _ hP hS hX hH hHi hR hTr hSn hFr (lv_sub hl [3, 1, 2, 0] rfl)
  exact lp_55 _ 0 (0, q.2.1, q.2.2.1, q.2.2.2.1, q.2.2.2.2) (Nat.zero_le _) (fun _ => rfl) (Nat.lt_succ_self _) _ _ _ _ hP hS hX hH hHi hR hTr hSn hFr (lv_sub hl [3, 2, 1, 0] rfl)
