/-! ===== the law's loop ===== -/
def lwF (p : Program) (s : State) (m : MethodId) (c : Code) (meth : Method) (b L : Nat) (xs : Nat → Int32) (D : va_G) (cy : Nat → ClassId) : Prop := zC p s m #[Value.ref b] c meth code 8 RL D cy (fun q => s.heap.size ≤ q) ∧ zN s ∧ va_X b L xs s s.heap ∧ b < s.heap.size ∧ L ≤ 260
/-- what holds as a turn begins -/
def lwI (cy : Nat → ClassId) (K : Nat) (ad : Nat → Nat) (g : Nat → va_E) (t : Nat) : Prop := ∃ (st : Nat → Int32) (sv : Nat → Nat → Int32) (nx sz2 : Nat) (ns : Nat → Option Nat) (ss : Nat → Nat → Int32) (bu : Nat → Int32) (ln : Nat), isT cy K ad g st sv nx sz2 ns ss bu ln ∧ pI t st ∧ nx < 6 ∧ sz2 ≤ 6 ∧ 221 ≤ K
def lwG (p : Program) (l : Launch) (e : Env) (s : State) (m : MethodId) (below : List Frame) (meth : Method) (c : Code) (b : Nat) (D : va_G) (cy : Nat → ClassId) (T t pc cells slots : Nat) : Prop := ∀ (K : Nat) (ad : Nat → Nat) (g : Nat → va_E) (H : Heap) (locs : List Loc) (ls : Array Slot), zP D K ad g (fun q => s.heap.size ≤ q) H → va_S (fun q => s.heap.size ≤ q) s.heap H locs → lwI cy K ad g (if pc = 198 then t + 1 else t) → lv_has ls 8 [(4, .int (nI t)), (2, .int 1), (3, .int (nI T)), (1, .ref (ad 0)), (0, .ref b)] → W p l e room_1 s m #[Value.ref b] below meth c H locs cells slots (lw_Z below #[Value.ref b] s) (F0 m pc ls [])
set_option maxHeartbeats 4000000 in
set_option maxRecDepth 100000 in
theorem law_mid {p : Program} {l : Launch} {e : Env} {s : State} {m : MethodId} {below : List Frame} {meth : Method} {c : Code} {b L : Nat} {xs : Nat → Int32} {D : va_G} {cy : Nat → ClassId} (F : lwF p s m c meth b L xs D cy) {T t : Nat} (hT2L : 2 * T ≤ L) (htT : t < T) (hT44 : T ≤ 44) {cells slots : Nat} (hcc : cells ≤ 600130) (hss : slots ≤ 7301079) (nx9 : lwG p l e s m below meth c b D cy T t 198 cells slots) : ∀ (K : Nat) (ad : Nat → Nat) (g : Nat → va_E) (H : Heap) (locs : List Loc) (ls : Array Slot) {st : Nat → Int32} {sv : Nat → Nat → Int32} {nx sz2 : Nat} {ns : Nat → Option Nat} {ss : Nat → Nat → Int32} {bu : Nat → Int32} {ln na : Nat}, zP D K ad g (fun q => s.heap.size ≤ q) H → va_S (fun q => s.heap.size ≤ q) s.heap H locs → isT cy K ad g st sv nx sz2 ns ss bu ln → pI t st → nx < 6 → sz2 ≤ 6 → 221 ≤ K → ns 0 = some na → ss 0 = st → lv_has ls 8 [(0, .ref b), (1, .ref (ad 0)), (2, .int 1), (3, .int (nI T)), (4, .int (nI t)), (5, .int (sumN (cTold st) 7)), (6, .int (sumN (allK st) 7 + sumN (allL st) 7))] → W p l e room_1 s m #[Value.ref b] below meth c H locs cells slots (lw_Z below #[Value.ref b] s) (F0 m 82 ls [.int (sumN (allK st) 7 + sumN (allL st) 7)]) := by
  intro K ad g H locs ls st sv nx sz2 ns ss bu ln na hP hS hTT hI hnx hsz hK hns hs0 hl
  obtain ⟨C0, hN, hX, hbl, hL⟩ := F
  have hx := C0.1; have hb := C0.2.1
  have hbA : ¬ s.heap.size ≤ b := Nat.not_le.mpr hbl
  have hFr : zFr zCl g g := zFr.rf
  have hI0 := hI
  refine lv_iload hx hb dL_law_82 (lv_at hl 6 rfl) ?_
  refine lv_icmp_ne (tgt := 133) hx hb dL_law_84 (by decide) (fun c_84 => absurd rfl c_84) (fun c_84 => ?_)
  refine lv_aload_n hx hb dL_law_87 rfl (lv_at hl 1 rfl) ?_
  refine lv_aload_n hx hb dL_law_88 rfl (lv_at hl 0 rfl) ?_
  refine lv_iconst (v := 2) hx hb dL_law_89 (by decide) ?_
  refine lv_iload hx hb dL_law_90 (lv_at hl 4 rfl) ?_
  refine lv_imul hx hb dL_law_92 ?_
  refine z_topi (y := nI (2 * t)) (nI_mul 2 t) ?_
  refine z_SSi (As := [.ref b, .int (nI (2 * t))]) (rest := [.ref (ad 0)]) C0 hX hbl hbA hP hS hl.1 (m_L_cell l _ (by omega) (by omega)) lk_L_94 rfl rfl (Nat.le_of_ble_eq_true rfl) ⟨(Nat.le_of_ble_eq_true rfl), (Nat.le_of_ble_eq_true rfl)⟩ rfl rfl ⟨hcc, hss⟩ dL_law_93 (fun H locs hP hS => ?_)
  refine lv_aload_n hx hb dL_law_96 rfl (lv_at hl 0 rfl) ?_
  refine lv_iconst (v := 2) hx hb dL_law_97 (by decide) ?_
  refine lv_iload hx hb dL_law_98 (lv_at hl 4 rfl) ?_
  refine lv_imul hx hb dL_law_100 ?_
  refine z_topi (y := nI (2 * t)) (nI_mul 2 t) ?_
  refine lv_iconst (v := 1) hx hb dL_law_101 (by decide) ?_
  refine lv_iadd hx hb dL_law_102 ?_
  refine z_topi (y := nI (2 * t + 1)) (nI_1 _) ?_
  refine z_SSi (As := [.ref b, .int (nI (2 * t + 1))]) (rest := [.int (xs (2 * t)), .ref (ad 0)]) C0 hX hbl hbA hP hS hl.1 (m_L_cell l _ (by omega) (by omega)) lk_L_94 rfl rfl (Nat.le_of_ble_eq_true rfl) ⟨(Nat.le_of_ble_eq_true rfl), (Nat.le_of_ble_eq_true rfl)⟩ rfl rfl ⟨hcc, hss⟩ dL_law_103 (fun H locs hP hS => ?_)
  refine z_Si_mo (As := [.ref (ad 0), .int (xs (2 * t)), .int (xs (2 * t + 1))]) (rest := []) C0 hP hS hl.1 (m_L_change l _ hTT hI hnx hsz (by omega)) lk_L_98 rfl rfl (Nat.le_of_ble_eq_true rfl) ⟨Nat.le_of_ble_eq_true rfl, Nat.le_of_ble_eq_true rfl⟩ rfl rfl ⟨hcc, hss⟩ dL_law_106 (fun r_106 g_1 H locs hP hS hp => ?_)
  obtain ⟨hr_106, s2, v2, n2, z2, hTT, hI, hnx, hsz, hF1⟩ := hp
  subst hr_106
  have hFr := hFr.tr (hF1.mono (by intro x9 hx9; first | (dsimp only [zOne, zRg, zCl] at hx9 ⊢; omega) | (dsimp only at hx9 ⊢; omega) | omega))
  refine lv_if_eq (tgt := 133) hx hb dL_law_109 (by decide) (fun c_109 => absurd c_109 (by decide)) (fun c_109 => ?_)
  refine lv_aload_n hx hb dL_law_112 rfl (lv_at hl 1 rfl) ?_
  refine lv_aload_n hx hb dL_law_113 rfl (lv_at hl 0 rfl) ?_
  refine lv_iconst (v := 2) hx hb dL_law_114 (by decide) ?_
  refine lv_iload hx hb dL_law_115 (lv_at hl 4 rfl) ?_
  refine lv_imul hx hb dL_law_117 ?_
  refine z_topi (y := nI (2 * t)) (nI_mul 2 t) ?_
  refine lv_iconst (v := 1) hx hb dL_law_118 (by decide) ?_
  refine lv_iadd hx hb dL_law_119 ?_
  refine z_topi (y := nI (2 * t + 1)) (nI_1 _) ?_
  refine z_SSi (As := [.ref b, .int (nI (2 * t + 1))]) (rest := [.ref (ad 0)]) C0 hX hbl hbA hP hS hl.1 (m_L_cell l _ (by omega) (by omega)) lk_L_94 rfl rfl (Nat.le_of_ble_eq_true rfl) ⟨(Nat.le_of_ble_eq_true rfl), (Nat.le_of_ble_eq_true rfl)⟩ rfl rfl ⟨hcc, hss⟩ dL_law_120 (fun H locs hP hS => ?_)
  refine z_Si_mo (As := [.ref (ad 0), .int (xs (2 * t + 1))]) (rest := []) C0 hP hS hl.1 (m_L_holds l _ hTT hI) lk_L_88 rfl rfl (Nat.le_of_ble_eq_true rfl) ⟨Nat.le_of_ble_eq_true rfl, Nat.le_of_ble_eq_true rfl⟩ rfl rfl ⟨hcc, hss⟩ dL_law_123 (fun r_123 g_2 H locs hP hS hp => ?_)
  obtain ⟨hr_123, hTT, hF1⟩ := hp
  subst hr_123
  have hFr := hFr.tr (hF1.mono (by intro x9 hx9; first | (dsimp only [zOne, zRg, zCl] at hx9 ⊢; omega) | (dsimp only at hx9 ⊢; omega) | omega))
  refine lv_if_eq (tgt := 133) hx hb dL_law_126 (by decide) (fun c_126 => absurd c_126 (by decide)) (fun c_126 => ?_)
  refine lv_iconst (v := 1) hx hb dL_law_129 (by decide) ?_
  refine lv_goto (tgt := 134) hx hb dL_law_130 (by decide) ?_
  refine lv_istore_n (lv' := [(2, .int 1), (0, .ref b), (1, .ref (ad 0)), (3, .int (nI T)), (4, .int (nI t)), (5, .int (sumN (cTold st) 7)), (6, .int (sumN (allK st) 7 + sumN (allL st) 7))]) hx hb dL_law_134 rfl hl (by decide) rfl (fun ls hl => ?_)
  refine lv_iload_n hx hb dL_law_135 rfl (lv_at hl 0 rfl) ?_
  refine lv_if_eq (tgt := 198) hx hb dL_law_136 (by decide) (fun c_136 => absurd c_136 (by decide)) (fun c_136 => ?_)
  refine lv_iload hx hb dL_law_139 (lv_at hl 4 rfl) ?_
  refine lv_bipush (v := 6) hx hb dL_law_141 (by decide) ?_
  refine lv_irem hx hb dL_law_143 (by decide) ?_
  refine lv_iconst (v := 5) hx hb dL_law_144 (by decide) ?_
  refine lv_icmp_ne (tgt := 198) hx hb dL_law_145 (by decide) (fun c_145 => ?_) (fun c_145 => ?_)
  · exact nx9 _ _ _ _ _ _ hP hS ⟨_, _, _, _, _, _, _, _, hTT, hI, hnx, (by omega), hK⟩ (lv_sub hl [4, 0, 3, 2, 1] rfl)
  · refine lv_aload_n hx hb dL_law_148 rfl (lv_at hl 2 rfl) ?_
    refine lv_iconst (v := (nI 1)) hx hb dL_law_149 (by decide) ?_
    obtain ⟨fs_150, hfs_150⟩ := hTT.rc
    refine z_Vi_eq (As := [.int (nI 1)]) (rest := []) C0 hP hS hl.1 (m_X4_count l _ hTT (by decide) hI.pc) lk_L_20 hTT.n0 hfs_150 rfl rfl (Nat.le_of_ble_eq_true rfl) ⟨Nat.le_of_ble_eq_true rfl, Nat.le_of_ble_eq_true rfl⟩ rfl rfl ⟨hcc, hss⟩ dL_law_150 (fun H locs hP hS => ?_)
    refine z_topi (y := sumN (allK s2) 7 + sumN (allL s2) 7) rfl ?_
    refine lv_istore (lv' := [(7, .int (sumN (allK s2) 7 + sumN (allL s2) 7)), (2, .int 1), (0, .ref b), (1, .ref (ad 0)), (3, .int (nI T)), (4, .int (nI t)), (5, .int (sumN (cTold st) 7)), (6, .int (sumN (allK st) 7 + sumN (allL st) 7))]) hx hb dL_law_153 hl (by decide) rfl (fun ls hl => ?_)
    refine lv_aload_n hx hb dL_law_155 rfl (lv_at hl 3 rfl) ?_
    refine lv_iconst (v := (nI 0)) hx hb dL_law_156 (by decide) ?_
    obtain ⟨fs_157, hfs_157⟩ := hTT.rc
    refine z_Vi_mo (As := [.int (nI 0)]) (rest := []) C0 hP hS hl.1 (m_X4_goBack l _ hTT (by decide) hns hnx hsz) lk_L_101 hTT.n0 hfs_157 rfl rfl (Nat.le_of_ble_eq_true rfl) ⟨Nat.le_of_ble_eq_true rfl, Nat.le_of_ble_eq_true rfl⟩ rfl rfl ⟨hcc, hss⟩ dL_law_157 (fun r_157 g_3 H locs hP hS hp => ?_)
    obtain ⟨hr_157, hTT, hF1⟩ := hp
    subst hr_157
    have hFr := hFr.tr (hF1.mono (by intro x9 hx9; first | (dsimp only [zOne, zRg, zCl] at hx9 ⊢; omega) | (dsimp only at hx9 ⊢; omega) | omega))
    rw [hs0] at hTT
    refine lv_iload hx hb dL_law_160 (lv_at hl 7 rfl) ?_
    refine lv_icmp_ne (tgt := 196) hx hb dL_law_162 (by decide) (fun c_162 => absurd (by rw [hs0]) c_162) (fun c_162 => ?_)
    refine lv_aload_n hx hb dL_law_165 rfl (lv_at hl 3 rfl) ?_
    refine lv_iconst (v := (nI 0)) hx hb dL_law_166 (by decide) ?_
    obtain ⟨fs_167, hfs_167⟩ := hTT.rc
    refine z_Vi_eq (As := [.int (nI 0)]) (rest := []) C0 hP hS hl.1 (m_X4_count l _ hTT (by decide) hI0.pc) lk_L_20 hTT.n0 hfs_167 rfl rfl (Nat.le_of_ble_eq_true rfl) ⟨Nat.le_of_ble_eq_true rfl, Nat.le_of_ble_eq_true rfl⟩ rfl rfl ⟨hcc, hss⟩ dL_law_167 (fun H locs hP hS => ?_)
    refine lv_iload hx hb dL_law_170 (lv_at hl 6 rfl) ?_
    refine lv_icmp_ne (tgt := 196) hx hb dL_law_172 (by decide) (fun c_172 => absurd rfl c_172) (fun c_172 => ?_)
    refine lv_aload_n hx hb dL_law_175 rfl (lv_at hl 3 rfl) ?_
    obtain ⟨z3, hz3⟩ : ∃ z3, min (z2 + 1) 6 = z3 + 1 := ⟨min (z2 + 1) 6 - 1, by omega⟩
    rw [hz3] at hTT
    obtain ⟨fs_176, hfs_176⟩ := hTT.rc
    refine z_Vi_mo (As := []) (rest := []) C0 hP hS hl.1 (m_X4_undo l _ hTT (Nat.mod_lt _ (by decide)) (by omega)) lk_L_104 hTT.n0 hfs_176 rfl rfl (Nat.le_of_ble_eq_true rfl) ⟨Nat.le_of_ble_eq_true rfl, Nat.le_of_ble_eq_true rfl⟩ rfl rfl ⟨hcc, hss⟩ dL_law_176 (fun r_176 g_4 H locs hP hS hp => ?_)
    obtain ⟨hr_176, hTT, hF1⟩ := hp
    subst hr_176
    have hFr := hFr.tr (hF1.mono (by intro x9 hx9; first | (dsimp only [zOne, zRg, zCl] at hx9 ⊢; omega) | (dsimp only at hx9 ⊢; omega) | omega))
    have en : ((n2 + 1) % 6 + 5) % 6 = n2 := by omega
    rw [en, va_up_self] at hTT
    refine lv_if_lt (tgt := 196) hx hb dL_law_179 (by decide) (fun c_179 => absurd c_179 (nI_pos (by omega))) (fun c_179 => ?_)
    refine lv_aload_n hx hb dL_law_182 rfl (lv_at hl 3 rfl) ?_
    refine lv_iconst (v := (nI 1)) hx hb dL_law_183 (by decide) ?_
    obtain ⟨fs_184, hfs_184⟩ := hTT.rc
    refine z_Vi_eq (As := [.int (nI 1)]) (rest := []) C0 hP hS hl.1 (m_X4_count l _ hTT (by decide) hI.pc) lk_L_20 hTT.n0 hfs_184 rfl rfl (Nat.le_of_ble_eq_true rfl) ⟨Nat.le_of_ble_eq_true rfl, Nat.le_of_ble_eq_true rfl⟩ rfl rfl ⟨hcc, hss⟩ dL_law_184 (fun H locs hP hS => ?_)
    refine lv_iload hx hb dL_law_187 (lv_at hl 0 rfl) ?_
    refine lv_icmp_ne (tgt := 196) hx hb dL_law_189 (by decide) (fun c_189 => absurd rfl c_189) (fun c_189 => ?_)
    refine lv_iconst (v := 1) hx hb dL_law_192 (by decide) ?_
    refine lv_goto (tgt := 197) hx hb dL_law_193 (by decide) ?_
    refine lv_istore_n (lv' := [(2, .int 1), (7, .int (sumN (allK s2) 7 + sumN (allL s2) 7)), (0, .ref b), (1, .ref (ad 0)), (3, .int (nI T)), (4, .int (nI t)), (5, .int (sumN (cTold st) 7)), (6, .int (sumN (allK st) 7 + sumN (allL st) 7))]) hx hb dL_law_197 rfl hl (by decide) rfl (fun ls hl => ?_)
    exact nx9 _ _ _ _ _ _ hP hS ⟨_, _, _, _, _, _, _, _, hTT, hI, hnx, (by omega), hK⟩ (lv_sub hl [5, 0, 4, 3, 2] rfl)
set_option maxHeartbeats 4000000 in
set_option maxRecDepth 100000 in
theorem law_turn {p : Program} {l : Launch} {e : Env} {s : State} {m : MethodId} {below : List Frame} {meth : Method} {c : Code} {b L : Nat} {xs : Nat → Int32} {D : va_G} {cy : Nat → ClassId} (F : lwF p s m c meth b L xs D cy) {T t : Nat} (hT2L : 2 * T ≤ L) (htT : t < T) (hT44 : T ≤ 44) {cells slots : Nat} (hc31 : cells + 31 ≤ 600130) (hs260 : slots + 260 ≤ 7301079) (nx9 : lwG p l e s m below meth c b D cy T t 198 (cells + 31) (slots + 260)) : ∀ (K : Nat) (ad : Nat → Nat) (g : Nat → va_E) (H : Heap) (locs : List Loc) (ls : Array Slot), zP D K ad g (fun q => s.heap.size ≤ q) H → va_S (fun q => s.heap.size ≤ q) s.heap H locs → lwI cy K ad g t → lv_has ls 8 [(0, .ref b), (1, .ref (ad 0)), (2, .int 1), (3, .int (nI T)), (4, .int (nI t))] → W p l e room_1 s m #[Value.ref b] below meth c H locs cells slots (lw_Z below #[Value.ref b] s) (F0 m 63 ls []) := by
  intro K ad g H locs ls hP hS hJ hl
  obtain ⟨st, sv, nx, sz2, ns, ss, bu, ln, hTT, hI, hnx, hsz, hK⟩ := hJ
  have F0 := F
  obtain ⟨C0, hN, hX, hbl, hL⟩ := F
  have hx := C0.1; have hb := C0.2.1
  have hFr : zFr zCl g g := zFr.rf
  have hcc : cells ≤ 600130 := by omega
  have hss : slots ≤ 7301079 := by omega
  refine lv_aload_n hx hb dL_law_63 rfl (lv_at hl 1 rfl) ?_
  refine lv_iconst (v := (nI 0)) hx hb dL_law_64 (by decide) ?_
  obtain ⟨fs_65, hfs_65⟩ := hTT.rc
  refine z_Vi_eq (As := [.int (nI 0)]) (rest := []) C0 hP hS hl.1 (m_X4_count l _ hTT (by decide) hI.pc) lk_L_20 hTT.n0 hfs_65 rfl rfl (Nat.le_of_ble_eq_true rfl) ⟨Nat.le_of_ble_eq_true rfl, Nat.le_of_ble_eq_true rfl⟩ rfl rfl ⟨hcc, hss⟩ dL_law_65 (fun H locs hP hS => ?_)
  refine z_topi (y := sumN (cTold st) 7) rfl ?_
  refine lv_istore (lv' := [(5, .int (sumN (cTold st) 7)), (0, .ref b), (1, .ref (ad 0)), (2, .int 1), (3, .int (nI T)), (4, .int (nI t))]) hx hb dL_law_68 hl (by decide) rfl (fun ls hl => ?_)
  refine lv_aload_n hx hb dL_law_70 rfl (lv_at hl 2 rfl) ?_
  refine lv_iconst (v := (nI 1)) hx hb dL_law_71 (by decide) ?_
  obtain ⟨fs_72, hfs_72⟩ := hTT.rc
  refine z_Vi_eq (As := [.int (nI 1)]) (rest := []) C0 hP hS hl.1 (m_X4_count l _ hTT (by decide) hI.pc) lk_L_20 hTT.n0 hfs_72 rfl rfl (Nat.le_of_ble_eq_true rfl) ⟨Nat.le_of_ble_eq_true rfl, Nat.le_of_ble_eq_true rfl⟩ rfl rfl ⟨hcc, hss⟩ dL_law_72 (fun H locs hP hS => ?_)
  refine z_topi (y := sumN (allK st) 7 + sumN (allL st) 7) rfl ?_
  refine lv_istore (lv' := [(6, .int (sumN (allK st) 7 + sumN (allL st) 7)), (5, .int (sumN (cTold st) 7)), (0, .ref b), (1, .ref (ad 0)), (2, .int 1), (3, .int (nI T)), (4, .int (nI t))]) hx hb dL_law_75 hl (by decide) rfl (fun ls hl => ?_)
  refine lv_aload_n hx hb dL_law_77 rfl (lv_at hl 3 rfl) ?_
  refine lv_iconst (v := (nI 0)) hx hb dL_law_78 (by decide) ?_
  obtain ⟨fs_79, hfs_79⟩ := hTT.rc
  cases hns : ns 0 with
  | none =>
    refine z_calliN C0 hP hS (z_runVN (As := [.int (nI 0)]) (rest := []) C0 hN hP hl.1 (m_X4_keepN l _ hTT hK (by decide) hns) lk_L_91 hTT.n0 hfs_79 rfl rfl (Nat.le_of_ble_eq_true rfl) rfl rfl ⟨(Nat.le_of_ble_eq_true rfl), (Nat.le_of_ble_eq_true rfl)⟩ ⟨by show cells + 30 ≤ 600130; omega, by show slots + 252 ≤ 7301079; omega⟩ dL_law_79) (fun r K1 ad1 g1 H locs hP hS hp => ?_)
    obtain ⟨hr1, hK1, hA1, hG1, hT2⟩ := hp
    dsimp only at hK1 hA1 hG1 hT2
    subst hr1
    subst hK1
    have hl : lv_has ls 8 [(6, .int (sumN (allK st) 7 + sumN (allL st) 7)), (5, .int (sumN (cTold st) 7)), (0, .ref b), (1, .ref (ad1 0)), (2, .int 1), (3, .int (nI T)), (4, .int (nI t))] := by rw [hA1 0 (by omega)]; exact hl
    refine W.widen (k := cells + 31) (n := slots + 260) (by omega) (by omega) ?_
    exact law_mid F0 hT2L htT hT44 hc31 hs260 nx9 _ _ _ _ _ _ hP hS hT2 hI hnx hsz (by omega) (va_up_self _ _ _) (va_up_self _ _ _) (lv_sub hl [2, 3, 4, 5, 6, 1, 0] rfl)
  | some na =>
    refine z_Vi_mo (As := [.int (nI 0)]) (rest := []) C0 hP hS hl.1 (m_X4_keep l _ hTT (by decide) hns) lk_L_91 hTT.n0 hfs_79 rfl rfl (Nat.le_of_ble_eq_true rfl) ⟨(Nat.le_of_ble_eq_true rfl), (Nat.le_of_ble_eq_true rfl)⟩ rfl rfl ⟨hcc, hss⟩ dL_law_79 (fun r g1 H locs hP hS hp => ?_)
    obtain ⟨hr1, hT2, hF1⟩ := hp
    subst hr1
    refine W.widen (k := cells + 31) (n := slots + 260) (by omega) (by omega) ?_
    exact law_mid F0 hT2L htT hT44 hc31 hs260 nx9 _ _ _ _ _ _ hP hS hT2 hI hnx hsz hK hns (va_up_self _ _ _) (lv_sub hl [2, 3, 4, 5, 6, 1, 0] rfl)
theorem law_loop {p : Program} {l : Launch} {e : Env} {s : State} {m : MethodId} {below : List Frame} {meth : Method} {c : Code} {b L : Nat} {xs : Nat → Int32} {D : va_G} {cy : Nat → ClassId} (F : lwF p s m c meth b L xs D cy) (hr : meth.sig.returnType = ret) {T : Nat} (hT2L : 2 * T ≤ L) (hT44 : T ≤ 44) : ∀ (N t : Nat), T - t < N → t ≤ T → lwG p l e s m below meth c b D cy T t 53 (300 + 31 * t) (5000 + 260 * t)
  | 0, t, hN9, _ => absurd hN9 (Nat.not_lt_zero _)
  | N + 1, t, hN9, ht => by
    intro K ad g H locs ls hP hS hJ hl
    have F0 := F
    obtain ⟨C0, hN, hX, hbl, hL⟩ := F0
    have hx := C0.1; have hb := C0.2.1; have hlk := C0.2.2.2.2.2.2.2
    refine lv_iload hx hb dL_law_53 (lv_at hl 0 rfl) ?_
    refine lv_iload_n hx hb dL_law_55 rfl (lv_at hl 2 rfl) ?_
    refine lv_icmp_ge (tgt := 204) hx hb dL_law_56 (by decide) (fun c_56 => ?_) (fun c_56 => ?_)
    · refine lv_iload_n hx hb dL_law_204 rfl (lv_at hl 1 rfl) ?_
      refine W.widen (k := 600130) (n := 7301079) (by omega) (by omega) ?_
      refine va_forget hS.2.2 ?_
      exact W.base (lw_ret (d0 := s.drawn) (Drawn.sameBut.refl s.drawn lw_cs) hx hb hr hlk dL_law_205)
    · have htT : t < T := z_ge_f (b := T) c_56 (by omega) (by omega)
      have ih := law_loop (l := l) (e := e) (below := below) F hr hT2L hT44 N (t + 1) (by omega) (by omega)
      rw [show 300 + 31 * (t + 1) = 300 + 31 * t + 31 by omega, show 5000 + 260 * (t + 1) = 5000 + 260 * t + 260 by omega] at ih
      have nx9 : lwG p l e s m below meth c b D cy T t 198 (300 + 31 * t + 31) (5000 + 260 * t + 260) := by
        intro K ad g H locs ls hP hS hJ hl
        refine lv_iinc (k := 0) (v := nI (t + 1)) (lv' := [(4, .int (nI (t + 1))), (2, .int 1), (3, .int (nI T)), (1, .ref (ad 0)), (0, .ref b)]) hx hb dL_law_198 hl rfl (z_inc _) (by decide) rfl (fun ls hl => ?_)
        refine lv_goto (tgt := 53) hx hb dL_law_201 (by decide) ?_
        exact ih _ _ _ _ _ _ hP hS hJ (lv_sub hl [0, 1, 2, 3, 4] rfl)
      refine lv_iload_n hx hb dL_law_59 rfl (lv_at hl 1 rfl) ?_
      refine lv_if_eq (tgt := 204) hx hb dL_law_60 (by decide) (fun q => absurd q (by decide)) (fun _ => ?_)
      exact law_turn F hT2L htT hT44 (by omega) (by omega) nx9 _ _ _ _ _ _ hP hS hJ (lv_sub hl [4, 3, 1, 2, 0] rfl)
