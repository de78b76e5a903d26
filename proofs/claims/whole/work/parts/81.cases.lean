/-! ===== the law's loop: the world between two calls ===== -/
def lwI (cy : Nat → ClassId) (K : Nat) (ad : Nat → Nat) (g : Nat → va_E) : Prop := ∃ (C : zCR) (M : zMR) (th : Int32) (w : Int64), cT cy K ad g C ∧ mT cy K ad g C.2.2.2.1 C.2.2.2.2.2.2.2 M th ∧ oV cy K g w ∧ AGr C M
def lwF (p : Program) (s : State) (m : MethodId) (c : Code) (meth : Method) (b L : Nat) (xs : Nat → Int32) (D : va_G) (cy : Nat → ClassId) : Prop := zC p s m #[Value.ref b] c meth code 9 RL D cy (fun q => s.heap.size ≤ q) ∧ zTh (fun q => s.heap.size ≤ q) s s.heap ∧ zNc s ∧ zN s ∧ va_X b L xs s s.heap ∧ b < s.heap.size ∧ L ≤ 2048
/-- from here, with such a world, the law comes to its end -/
def lwG (p : Program) (l : Launch) (e : Env) (s : State) (m : MethodId) (below : List Frame) (meth : Method) (c : Code) (b : Nat) (D : va_G) (cy : Nat → ClassId) (a0 a1 a2 pc i cells slots : Nat) : Prop :=
  ∀ (K : Nat) (ad : Nat → Nat) (g : Nat → va_E) (H : Heap) (locs : List Loc) (ls : Array Slot), zP D K ad g (fun q => s.heap.size ≤ q) H → va_S (fun q => s.heap.size ≤ q) s.heap H locs → lwI cy K ad g → ad 0 = a0 → ad 221 = a1 → ad 230 = a2 → lv_has ls 9 [(0, .ref b), (1, .ref a0), (2, .ref a1), (3, .ref a2), (4, .int (nI i))] → W p l e room_1 s m #[Value.ref b] below meth c H locs cells slots (lw_Z below #[Value.ref b] s) (F0 m pc ls [])
section ZLC
variable {p : Program} {l : Launch} {e : Env} {s : State} {m : MethodId} {below : List Frame} {meth : Method} {c : Code} {b L : Nat} {xs : Nat → Int32} {D : va_G} {cy : Nat → ClassId} {a0 a1 a2 : Nat}
set_option maxHeartbeats 1000000 in
theorem lc_tie (hfl : l.stackTraces = false) (F : lwF p s m c meth b L xs D cy) {i cells slots : Nat} (hi : i + 4 ≤ L) (hc : cells + 31 ≤ 601024) (hs : slots + 260 ≤ 7293034) (nx : lwG p l e s m below meth c b D cy a0 a1 a2 1474 i (cells + 31) (slots + 260)) : lwG p l e s m below meth c b D cy a0 a1 a2 152 i cells slots := by
  intro K ad g H locs ls hP hS hI h0 h1 h2 hl
  obtain ⟨C, M, th, w, hT, hM, hO, hAG⟩ := hI
  obtain ⟨C0, hTh, hNc, hN, hX, hbl, hL⟩ := F
  have hx := C0.1; have hb := C0.2.1
  have hbA : ¬ s.heap.size ≤ b := Nat.not_le.mpr hbl
  rw [← h0, ← h1, ← h2] at hl
  obtain ⟨fs1, hfs1⟩ := hT.rc
  obtain ⟨k, v, C2, M2, hk3, hAG2, hW, rm, ⟨r1, r2, r3, r4⟩, hMM⟩ := op_tie l hfl hAG (xs (nI (i + 1)).toNatClampNeg) (xs (nI (i + 2)).toNatClampNeg)
  refine lv_aload_n hx hb dL_law_152 rfl (lv_at hl 1 rfl) ?_
  refine lv_aload_n hx hb dL_law_153 rfl (lv_at hl 0 rfl) ?_
  refine lv_iload hx hb dL_law_154 (lv_at hl 4 rfl) ?_
  refine lv_iconst (v := 1) hx hb dL_law_156 (by decide) ?_
  refine lv_iadd hx hb dL_law_157 ?_
  refine z_topi (y := nI (i + 1)) (nI_add i 1) ?_
  refine va_sld hx hb hX hbl hbA hS (vp_in_nI (by omega) (by omega)) dL_law_158 ?_
  refine lv_aload_n hx hb dL_law_159 rfl (lv_at hl 0 rfl) ?_
  refine lv_iload hx hb dL_law_160 (lv_at hl 4 rfl) ?_
  refine lv_iconst (v := 2) hx hb dL_law_162 (by decide) ?_
  refine lv_iadd hx hb dL_law_163 ?_
  refine z_topi (y := nI (i + 2)) (nI_add i 2) ?_
  refine va_sld hx hb hX hbl hbA hS (vp_in_nI (by omega) (by omega)) dL_law_164 ?_
  refine lv_aload_n hx hb dL_law_165 rfl (lv_at hl 3 rfl) ?_
  refine z_calli C0 hP hS (z_runSW (As := [.ref (ad 0), .int (xs (nI (i + 1)).toNatClampNeg), .int (xs (nI (i + 2)).toNatClampNeg), .ref (ad 230)]) (rest := []) C0 hTh hNc hP hS hl.1 (hW _ hT hO) lh_tie rfl rfl (Nat.le_of_ble_eq_true rfl) rfl rfl ⟨(Nat.le_of_ble_eq_true rfl), (Nat.le_of_ble_eq_true rfl)⟩ ⟨(show cells + 1 ≤ 601024 by omega), (show slots + 6 ≤ 7293034 by omega)⟩ dL_law_166) (fun r g1 H locs hP hS hp => ?_)
  obtain ⟨hr, hT2, ⟨w2, hO2, hw⟩, hF⟩ := hp
  subst hr
  have hM := hM.kept hF (fun z q1 q2 => by unfold zClO zCl; omega)
  refine lv_istore (lv' := [(5, .int (nI k)), (0, .ref b), (1, .ref (ad 0)), (2, .ref (ad 221)), (3, .ref (ad 230)), (4, .int (nI i))]) hx hb dL_law_169 hl (by decide) rfl (fun ls hl => ?_)
  obtain ⟨fs2, hfs2⟩ := hM.rc
  refine lv_aload_n hx hb dL_law_171 rfl (lv_at hl 3 rfl) ?_
  refine lv_aload_n hx hb dL_law_172 rfl (lv_at hl 1 rfl) ?_
  refine lv_iload hx hb dL_law_173 (lv_at hl 5 rfl) ?_
  refine lv_iconst (v := 1) hx hb dL_law_175 (by decide) ?_
  refine lv_iadd hx hb dL_law_176 ?_
  refine z_topi (y := nI (i + 1)) (nI_add i 1) ?_
  refine va_sld hx hb hX hbl hbA hS (vp_in_nI (by omega) (by omega)) dL_law_177 ?_
  refine lv_aload_n hx hb dL_law_178 rfl (lv_at hl 1 rfl) ?_
  refine lv_iload hx hb dL_law_179 (lv_at hl 5 rfl) ?_
  refine lv_iconst (v := 2) hx hb dL_law_181 (by decide) ?_
  refine lv_iadd hx hb dL_law_182 ?_
  refine z_topi (y := nI (i + 2)) (nI_add i 2) ?_
  refine va_sld hx hb hX hbl hbA hS (vp_in_nI (by omega) (by omega)) dL_law_183 ?_
  refine z_Vi_mo (As := [.int (xs (nI (i + 1)).toNatClampNeg), .int (xs (nI (i + 2)).toNatClampNeg)]) (rest := []) C0 hP hS hl.1 (hMM _ hM) lk_L_88 hM.n0 hfs2 rfl rfl (Nat.le_of_ble_eq_true rfl) ⟨(show rm.frames + 1 ≤ 2048 by omega), (show 8 + (_ + 11) + rm.locals ≤ 84000 by omega)⟩ r1 r2 ⟨(show cells + 1 ≤ 601024 by omega), (show slots + 6 ≤ 7293034 by omega)⟩ dL_law_184 (fun r g2 H locs hP hS hp => ?_)
  obtain ⟨hr, hM2, hF2⟩ := hp
  refine lv_istore (lv' := [(6, .int r), (5, .int (nI k)), (0, .ref b), (1, .ref (ad 0)), (2, .ref (ad 221)), (3, .ref (ad 230)), (4, .int (nI i))]) hx hb dL_law_187 hl (by decide) rfl (fun ls hl => ?_)
  refine lv_aload_n hx hb dL_law_189 rfl (lv_at hl 4 rfl) ?_
  obtain ⟨az, kn, lo, dg, hM3⟩ := hM2
  refine z_Vi_eq (As := []) (rest := []) C0 hP hS hl.1 (m_X5_thrown l _ hM3) lk_L_89 hM3.n0 hM3.o rfl rfl (Nat.le_of_ble_eq_true rfl) ⟨(Nat.le_of_ble_eq_true rfl), (Nat.le_of_ble_eq_true rfl)⟩ rfl rfl ⟨(show cells + 1 ≤ 601024 by omega), (show slots + 6 ≤ 7293034 by omega)⟩ dL_law_190 (fun H locs hP hS => ?_)
  refine lv_iload hx hb dL_law_193 (lv_at hl 1 rfl) ?_
  refine lv_icmp_eq (tgt := 200) hx hb dL_law_195 (by decide) (fun _ => ?_) (fun q => absurd rfl q)
  refine lv_iload hx hb dL_law_200 (lv_at hl 1 rfl) ?_
  refine lv_if_ne (tgt := 217) hx hb dL_law_202 (by decide) (fun _ => ?_) (fun hk0 => ?_)
  · refine lv_goto (tgt := 1474) hx hb dL_law_217 (by decide) ?_
    refine W.widen (k := cells + 31) (n := slots + 260) (by omega) (by omega) ?_
    have hl := lv_sub hl (l' := [(0, .ref b), (1, .ref (ad 0)), (2, .ref (ad 221)), (3, .ref (ad 230)), (4, .int (nI i))]) [2, 3, 4, 5, 6] rfl
    rw [h0, h1, h2] at hl
    exact nx _ _ _ _ _ _ hP hS ⟨C2, M2, _, _, hT2.kept hF2 (fun z q1 q2 => by unfold zCl at q1; dsimp only [zRg] at q2; omega), ⟨az, kn, lo, dg, hM3⟩, hO2.kept hF2 (by dsimp only [zRg]; omega), hAG2⟩ h0 h1 h2 hl
  · have hk : k = 0 := (nI_eq (by omega) (by decide)).mp (hk0.trans nI_0.symm)
    have hrv := hr hk
    have hwv := hw hk
    have hO3 := hO2.kept hF2 (by dsimp only [zRg]; omega)
    obtain ⟨hO4, f, hO5, hO6⟩ := id hO3
    refine lv_aload_n hx hb dL_law_205 rfl (lv_at hl 5 rfl) ?_
    refine lv_iconst (v := 0) hx hb dL_law_206 (by decide) ?_
    refine z_lald C0 hP hO4 hO5 (zIx_of nI_0.symm (by decide) (by decide)) dL_law_207 ?_
    refine lv_iload hx hb dL_law_208 (lv_at hl 0 rfl) ?_
    refine lv_i2l (v := Int32.toInt64 r) hx hb dL_law_210 rfl ?_
    refine W.lcmp hx hb dL_law_211 ?_
    refine lv_if_eq (tgt := 217) hx hb dL_law_212 (by decide) (fun _ => ?_) (fun q => absurd ((lg_cmp_eq _ _).mpr (hO6.trans (hwv.trans (congrArg Int32.toInt64 hrv.symm)))) q)
    refine lv_goto (tgt := 1474) hx hb dL_law_217 (by decide) ?_
    refine W.widen (k := cells + 31) (n := slots + 260) (by omega) (by omega) ?_
    have hl := lv_sub hl (l' := [(0, .ref b), (1, .ref (ad 0)), (2, .ref (ad 221)), (3, .ref (ad 230)), (4, .int (nI i))]) [2, 3, 4, 5, 6] rfl
    rw [h0, h1, h2] at hl
    exact nx _ _ _ _ _ _ hP hS ⟨C2, M2, _, _, hT2.kept hF2 (fun z q1 q2 => by unfold zCl at q1; dsimp only [zRg] at q2; omega), ⟨az, kn, lo, dg, hM3⟩, hO2.kept hF2 (by dsimp only [zRg]; omega), hAG2⟩ h0 h1 h2 hl
set_option maxHeartbeats 1000000 in
theorem lc_add (hfl : l.stackTraces = false) (F : lwF p s m c meth b L xs D cy) {i cells slots : Nat} (hi : i + 4 ≤ L) (hc : cells + 31 ≤ 601024) (hs : slots + 260 ≤ 7293034) (nx : lwG p l e s m below meth c b D cy a0 a1 a2 1474 i (cells + 31) (slots + 260)) : lwG p l e s m below meth c b D cy a0 a1 a2 220 i cells slots := by
  intro K ad g H locs ls hP hS hI h0 h1 h2 hl
  obtain ⟨C, M, th, w, hT, hM, hO, hAG⟩ := hI
  obtain ⟨C0, hTh, hNc, hN, hX, hbl, hL⟩ := F
  have hx := C0.1; have hb := C0.2.1
  have hbA : ¬ s.heap.size ≤ b := Nat.not_le.mpr hbl
  rw [← h0, ← h1, ← h2] at hl
  obtain ⟨fs1, hfs1⟩ := hT.rc
  obtain ⟨k, v, C2, M2, hk3, hAG2, hW, rm, ⟨r1, r2, r3, r4⟩, hMM⟩ := op_add l hfl hAG (xs (nI (i + 1)).toNatClampNeg) (xs (nI (i + 2)).toNatClampNeg)
  refine lv_aload_n hx hb dL_law_220 rfl (lv_at hl 1 rfl) ?_
  refine lv_aload_n hx hb dL_law_221 rfl (lv_at hl 0 rfl) ?_
  refine lv_iload hx hb dL_law_222 (lv_at hl 4 rfl) ?_
  refine lv_iconst (v := 1) hx hb dL_law_224 (by decide) ?_
  refine lv_iadd hx hb dL_law_225 ?_
  refine z_topi (y := nI (i + 1)) (nI_add i 1) ?_
  refine va_sld hx hb hX hbl hbA hS (vp_in_nI (by omega) (by omega)) dL_law_226 ?_
  refine lv_aload_n hx hb dL_law_227 rfl (lv_at hl 0 rfl) ?_
  refine lv_iload hx hb dL_law_228 (lv_at hl 4 rfl) ?_
  refine lv_iconst (v := 2) hx hb dL_law_230 (by decide) ?_
  refine lv_iadd hx hb dL_law_231 ?_
  refine z_topi (y := nI (i + 2)) (nI_add i 2) ?_
  refine va_sld hx hb hX hbl hbA hS (vp_in_nI (by omega) (by omega)) dL_law_232 ?_
  refine lv_aload_n hx hb dL_law_233 rfl (lv_at hl 3 rfl) ?_
  refine z_calli C0 hP hS (z_runSW (As := [.ref (ad 0), .int (xs (nI (i + 1)).toNatClampNeg), .int (xs (nI (i + 2)).toNatClampNeg), .ref (ad 230)]) (rest := []) C0 hTh hNc hP hS hl.1 (hW _ hT hO) lh_add rfl rfl (Nat.le_of_ble_eq_true rfl) rfl rfl ⟨(Nat.le_of_ble_eq_true rfl), (Nat.le_of_ble_eq_true rfl)⟩ ⟨(show cells + 1 ≤ 601024 by omega), (show slots + 6 ≤ 7293034 by omega)⟩ dL_law_234) (fun r g1 H locs hP hS hp => ?_)
  obtain ⟨hr, hT2, ⟨w2, hO2, hw⟩, hF⟩ := hp
  subst hr
  have hM := hM.kept hF (fun z q1 q2 => by unfold zClO zCl; omega)
  refine lv_istore (lv' := [(5, .int (nI k)), (0, .ref b), (1, .ref (ad 0)), (2, .ref (ad 221)), (3, .ref (ad 230)), (4, .int (nI i))]) hx hb dL_law_237 hl (by decide) rfl (fun ls hl => ?_)
  obtain ⟨fs2, hfs2⟩ := hM.rc
  refine lv_aload_n hx hb dL_law_239 rfl (lv_at hl 3 rfl) ?_
  refine lv_aload_n hx hb dL_law_240 rfl (lv_at hl 1 rfl) ?_
  refine lv_iload hx hb dL_law_241 (lv_at hl 5 rfl) ?_
  refine lv_iconst (v := 1) hx hb dL_law_243 (by decide) ?_
  refine lv_iadd hx hb dL_law_244 ?_
  refine z_topi (y := nI (i + 1)) (nI_add i 1) ?_
  refine va_sld hx hb hX hbl hbA hS (vp_in_nI (by omega) (by omega)) dL_law_245 ?_
  refine lv_aload_n hx hb dL_law_246 rfl (lv_at hl 1 rfl) ?_
  refine lv_iload hx hb dL_law_247 (lv_at hl 5 rfl) ?_
  refine lv_iconst (v := 2) hx hb dL_law_249 (by decide) ?_
  refine lv_iadd hx hb dL_law_250 ?_
  refine z_topi (y := nI (i + 2)) (nI_add i 2) ?_
  refine va_sld hx hb hX hbl hbA hS (vp_in_nI (by omega) (by omega)) dL_law_251 ?_
  refine z_Vi_mo (As := [.int (xs (nI (i + 1)).toNatClampNeg), .int (xs (nI (i + 2)).toNatClampNeg)]) (rest := []) C0 hP hS hl.1 (hMM _ hM) lk_L_94 hM.n0 hfs2 rfl rfl (Nat.le_of_ble_eq_true rfl) ⟨(show rm.frames + 1 ≤ 2048 by omega), (show 8 + (_ + 11) + rm.locals ≤ 84000 by omega)⟩ r1 r2 ⟨(show cells + 1 ≤ 601024 by omega), (show slots + 6 ≤ 7293034 by omega)⟩ dL_law_252 (fun r g2 H locs hP hS hp => ?_)
  obtain ⟨hr, hM2, hF2⟩ := hp
  refine lv_istore (lv' := [(6, .int r), (5, .int (nI k)), (0, .ref b), (1, .ref (ad 0)), (2, .ref (ad 221)), (3, .ref (ad 230)), (4, .int (nI i))]) hx hb dL_law_255 hl (by decide) rfl (fun ls hl => ?_)
  refine lv_aload_n hx hb dL_law_257 rfl (lv_at hl 4 rfl) ?_
  obtain ⟨az, kn, lo, dg, hM3⟩ := hM2
  refine z_Vi_eq (As := []) (rest := []) C0 hP hS hl.1 (m_X5_thrown l _ hM3) lk_L_89 hM3.n0 hM3.o rfl rfl (Nat.le_of_ble_eq_true rfl) ⟨(Nat.le_of_ble_eq_true rfl), (Nat.le_of_ble_eq_true rfl)⟩ rfl rfl ⟨(show cells + 1 ≤ 601024 by omega), (show slots + 6 ≤ 7293034 by omega)⟩ dL_law_258 (fun H locs hP hS => ?_)
  refine lv_iload hx hb dL_law_261 (lv_at hl 1 rfl) ?_
  refine lv_icmp_eq (tgt := 268) hx hb dL_law_263 (by decide) (fun _ => ?_) (fun q => absurd rfl q)
  refine lv_iload hx hb dL_law_268 (lv_at hl 1 rfl) ?_
  refine lv_if_ne (tgt := 285) hx hb dL_law_270 (by decide) (fun _ => ?_) (fun hk0 => ?_)
  · refine lv_goto (tgt := 1474) hx hb dL_law_285 (by decide) ?_
    refine W.widen (k := cells + 31) (n := slots + 260) (by omega) (by omega) ?_
    have hl := lv_sub hl (l' := [(0, .ref b), (1, .ref (ad 0)), (2, .ref (ad 221)), (3, .ref (ad 230)), (4, .int (nI i))]) [2, 3, 4, 5, 6] rfl
    rw [h0, h1, h2] at hl
    exact nx _ _ _ _ _ _ hP hS ⟨C2, M2, _, _, hT2.kept hF2 (fun z q1 q2 => by unfold zCl at q1; dsimp only [zRg] at q2; omega), ⟨az, kn, lo, dg, hM3⟩, hO2.kept hF2 (by dsimp only [zRg]; omega), hAG2⟩ h0 h1 h2 hl
  · have hk : k = 0 := (nI_eq (by omega) (by decide)).mp (hk0.trans nI_0.symm)
    have hrv := hr hk
    have hwv := hw hk
    have hO3 := hO2.kept hF2 (by dsimp only [zRg]; omega)
    obtain ⟨hO4, f, hO5, hO6⟩ := id hO3
    refine lv_aload_n hx hb dL_law_273 rfl (lv_at hl 5 rfl) ?_
    refine lv_iconst (v := 0) hx hb dL_law_274 (by decide) ?_
    refine z_lald C0 hP hO4 hO5 (zIx_of nI_0.symm (by decide) (by decide)) dL_law_275 ?_
    refine lv_iload hx hb dL_law_276 (lv_at hl 0 rfl) ?_
    refine lv_i2l (v := Int32.toInt64 r) hx hb dL_law_278 rfl ?_
    refine W.lcmp hx hb dL_law_279 ?_
    refine lv_if_eq (tgt := 285) hx hb dL_law_280 (by decide) (fun _ => ?_) (fun q => absurd ((lg_cmp_eq _ _).mpr (hO6.trans (hwv.trans (congrArg Int32.toInt64 hrv.symm)))) q)
    refine lv_goto (tgt := 1474) hx hb dL_law_285 (by decide) ?_
    refine W.widen (k := cells + 31) (n := slots + 260) (by omega) (by omega) ?_
    have hl := lv_sub hl (l' := [(0, .ref b), (1, .ref (ad 0)), (2, .ref (ad 221)), (3, .ref (ad 230)), (4, .int (nI i))]) [2, 3, 4, 5, 6] rfl
    rw [h0, h1, h2] at hl
    exact nx _ _ _ _ _ _ hP hS ⟨C2, M2, _, _, hT2.kept hF2 (fun z q1 q2 => by unfold zCl at q1; dsimp only [zRg] at q2; omega), ⟨az, kn, lo, dg, hM3⟩, hO2.kept hF2 (by dsimp only [zRg]; omega), hAG2⟩ h0 h1 h2 hl
set_option maxHeartbeats 1000000 in
theorem lc_slip (hfl : l.stackTraces = false) (F : lwF p s m c meth b L xs D cy) {i cells slots : Nat} (hi : i + 4 ≤ L) (hc : cells + 31 ≤ 601024) (hs : slots + 260 ≤ 7293034) (nx : lwG p l e s m below meth c b D cy a0 a1 a2 1474 i (cells + 31) (slots + 260)) : lwG p l e s m below meth c b D cy a0 a1 a2 288 i cells slots := by
  intro K ad g H locs ls hP hS hI h0 h1 h2 hl
  obtain ⟨C, M, th, w, hT, hM, hO, hAG⟩ := hI
  obtain ⟨C0, hTh, hNc, hN, hX, hbl, hL⟩ := F
  have hx := C0.1; have hb := C0.2.1
  have hbA : ¬ s.heap.size ≤ b := Nat.not_le.mpr hbl
  rw [← h0, ← h1, ← h2] at hl
  obtain ⟨fs1, hfs1⟩ := hT.rc
  obtain ⟨k, v, C2, M2, hk3, hAG2, hW, rm, ⟨r1, r2, r3, r4⟩, hMM⟩ := op_slip l hfl hAG (xs (nI (i + 1)).toNatClampNeg) (xs (nI (i + 2)).toNatClampNeg)
  refine lv_aload_n hx hb dL_law_288 rfl (lv_at hl 1 rfl) ?_
  refine lv_aload_n hx hb dL_law_289 rfl (lv_at hl 0 rfl) ?_
  refine lv_iload hx hb dL_law_290 (lv_at hl 4 rfl) ?_
  refine lv_iconst (v := 1) hx hb dL_law_292 (by decide) ?_
  refine lv_iadd hx hb dL_law_293 ?_
  refine z_topi (y := nI (i + 1)) (nI_add i 1) ?_
  refine va_sld hx hb hX hbl hbA hS (vp_in_nI (by omega) (by omega)) dL_law_294 ?_
  refine lv_aload_n hx hb dL_law_295 rfl (lv_at hl 0 rfl) ?_
  refine lv_iload hx hb dL_law_296 (lv_at hl 4 rfl) ?_
  refine lv_iconst (v := 2) hx hb dL_law_298 (by decide) ?_
  refine lv_iadd hx hb dL_law_299 ?_
  refine z_topi (y := nI (i + 2)) (nI_add i 2) ?_
  refine va_sld hx hb hX hbl hbA hS (vp_in_nI (by omega) (by omega)) dL_law_300 ?_
  refine lv_aload_n hx hb dL_law_301 rfl (lv_at hl 3 rfl) ?_
  refine z_calli C0 hP hS (z_runSW (As := [.ref (ad 0), .int (xs (nI (i + 1)).toNatClampNeg), .int (xs (nI (i + 2)).toNatClampNeg), .ref (ad 230)]) (rest := []) C0 hTh hNc hP hS hl.1 (hW _ hT hO) lh_slip rfl rfl (Nat.le_of_ble_eq_true rfl) rfl rfl ⟨(Nat.le_of_ble_eq_true rfl), (Nat.le_of_ble_eq_true rfl)⟩ ⟨(show cells + 1 ≤ 601024 by omega), (show slots + 6 ≤ 7293034 by omega)⟩ dL_law_302) (fun r g1 H locs hP hS hp => ?_)
  obtain ⟨hr, hT2, ⟨w2, hO2, hw⟩, hF⟩ := hp
  subst hr
  have hM := hM.kept hF (fun z q1 q2 => by unfold zClO zCl; omega)
  refine lv_istore (lv' := [(5, .int (nI k)), (0, .ref b), (1, .ref (ad 0)), (2, .ref (ad 221)), (3, .ref (ad 230)), (4, .int (nI i))]) hx hb dL_law_305 hl (by decide) rfl (fun ls hl => ?_)
  obtain ⟨fs2, hfs2⟩ := hM.rc
  refine lv_aload_n hx hb dL_law_307 rfl (lv_at hl 3 rfl) ?_
  refine lv_aload_n hx hb dL_law_308 rfl (lv_at hl 1 rfl) ?_
  refine lv_iload hx hb dL_law_309 (lv_at hl 5 rfl) ?_
  refine lv_iconst (v := 1) hx hb dL_law_311 (by decide) ?_
  refine lv_iadd hx hb dL_law_312 ?_
  refine z_topi (y := nI (i + 1)) (nI_add i 1) ?_
  refine va_sld hx hb hX hbl hbA hS (vp_in_nI (by omega) (by omega)) dL_law_313 ?_
  refine lv_aload_n hx hb dL_law_314 rfl (lv_at hl 1 rfl) ?_
  refine lv_iload hx hb dL_law_315 (lv_at hl 5 rfl) ?_
  refine lv_iconst (v := 2) hx hb dL_law_317 (by decide) ?_
  refine lv_iadd hx hb dL_law_318 ?_
  refine z_topi (y := nI (i + 2)) (nI_add i 2) ?_
  refine va_sld hx hb hX hbl hbA hS (vp_in_nI (by omega) (by omega)) dL_law_319 ?_
  refine z_Vi_mo (As := [.int (xs (nI (i + 1)).toNatClampNeg), .int (xs (nI (i + 2)).toNatClampNeg)]) (rest := []) C0 hP hS hl.1 (hMM _ hM) lk_L_97 hM.n0 hfs2 rfl rfl (Nat.le_of_ble_eq_true rfl) ⟨(show rm.frames + 1 ≤ 2048 by omega), (show 8 + (_ + 11) + rm.locals ≤ 84000 by omega)⟩ r1 r2 ⟨(show cells + 1 ≤ 601024 by omega), (show slots + 6 ≤ 7293034 by omega)⟩ dL_law_320 (fun r g2 H locs hP hS hp => ?_)
  obtain ⟨hr, hM2, hF2⟩ := hp
  refine lv_istore (lv' := [(6, .int r), (5, .int (nI k)), (0, .ref b), (1, .ref (ad 0)), (2, .ref (ad 221)), (3, .ref (ad 230)), (4, .int (nI i))]) hx hb dL_law_323 hl (by decide) rfl (fun ls hl => ?_)
  refine lv_aload_n hx hb dL_law_325 rfl (lv_at hl 4 rfl) ?_
  obtain ⟨az, kn, lo, dg, hM3⟩ := hM2
  refine z_Vi_eq (As := []) (rest := []) C0 hP hS hl.1 (m_X5_thrown l _ hM3) lk_L_89 hM3.n0 hM3.o rfl rfl (Nat.le_of_ble_eq_true rfl) ⟨(Nat.le_of_ble_eq_true rfl), (Nat.le_of_ble_eq_true rfl)⟩ rfl rfl ⟨(show cells + 1 ≤ 601024 by omega), (show slots + 6 ≤ 7293034 by omega)⟩ dL_law_326 (fun H locs hP hS => ?_)
  refine lv_iload hx hb dL_law_329 (lv_at hl 1 rfl) ?_
  refine lv_icmp_eq (tgt := 336) hx hb dL_law_331 (by decide) (fun _ => ?_) (fun q => absurd rfl q)
  refine lv_iload hx hb dL_law_336 (lv_at hl 1 rfl) ?_
  refine lv_if_ne (tgt := 353) hx hb dL_law_338 (by decide) (fun _ => ?_) (fun hk0 => ?_)
  · refine lv_goto (tgt := 1474) hx hb dL_law_353 (by decide) ?_
    refine W.widen (k := cells + 31) (n := slots + 260) (by omega) (by omega) ?_
    have hl := lv_sub hl (l' := [(0, .ref b), (1, .ref (ad 0)), (2, .ref (ad 221)), (3, .ref (ad 230)), (4, .int (nI i))]) [2, 3, 4, 5, 6] rfl
    rw [h0, h1, h2] at hl
    exact nx _ _ _ _ _ _ hP hS ⟨C2, M2, _, _, hT2.kept hF2 (fun z q1 q2 => by unfold zCl at q1; dsimp only [zRg] at q2; omega), ⟨az, kn, lo, dg, hM3⟩, hO2.kept hF2 (by dsimp only [zRg]; omega), hAG2⟩ h0 h1 h2 hl
  · have hk : k = 0 := (nI_eq (by omega) (by decide)).mp (hk0.trans nI_0.symm)
    have hrv := hr hk
    have hwv := hw hk
    have hO3 := hO2.kept hF2 (by dsimp only [zRg]; omega)
    obtain ⟨hO4, f, hO5, hO6⟩ := id hO3
    refine lv_aload_n hx hb dL_law_341 rfl (lv_at hl 5 rfl) ?_
    refine lv_iconst (v := 0) hx hb dL_law_342 (by decide) ?_
    refine z_lald C0 hP hO4 hO5 (zIx_of nI_0.symm (by decide) (by decide)) dL_law_343 ?_
    refine lv_iload hx hb dL_law_344 (lv_at hl 0 rfl) ?_
    refine lv_i2l (v := Int32.toInt64 r) hx hb dL_law_346 rfl ?_
    refine W.lcmp hx hb dL_law_347 ?_
    refine lv_if_eq (tgt := 353) hx hb dL_law_348 (by decide) (fun _ => ?_) (fun q => absurd ((lg_cmp_eq _ _).mpr (hO6.trans (hwv.trans (congrArg Int32.toInt64 hrv.symm)))) q)
    refine lv_goto (tgt := 1474) hx hb dL_law_353 (by decide) ?_
    refine W.widen (k := cells + 31) (n := slots + 260) (by omega) (by omega) ?_
    have hl := lv_sub hl (l' := [(0, .ref b), (1, .ref (ad 0)), (2, .ref (ad 221)), (3, .ref (ad 230)), (4, .int (nI i))]) [2, 3, 4, 5, 6] rfl
    rw [h0, h1, h2] at hl
    exact nx _ _ _ _ _ _ hP hS ⟨C2, M2, _, _, hT2.kept hF2 (fun z q1 q2 => by unfold zCl at q1; dsimp only [zRg] at q2; omega), ⟨az, kn, lo, dg, hM3⟩, hO2.kept hF2 (by dsimp only [zRg]; omega), hAG2⟩ h0 h1 h2 hl
set_option maxHeartbeats 1000000 in
theorem lc_mend (hfl : l.stackTraces = false) (F : lwF p s m c meth b L xs D cy) {i cells slots : Nat} (hi : i + 4 ≤ L) (hc : cells + 31 ≤ 601024) (hs : slots + 260 ≤ 7293034) (nx : lwG p l e s m below meth c b D cy a0 a1 a2 1474 i (cells + 31) (slots + 260)) : lwG p l e s m below meth c b D cy a0 a1 a2 356 i cells slots := by
  intro K ad g H locs ls hP hS hI h0 h1 h2 hl
  obtain ⟨C, M, th, w, hT, hM, hO, hAG⟩ := hI
  obtain ⟨C0, hTh, hNc, hN, hX, hbl, hL⟩ := F
  have hx := C0.1; have hb := C0.2.1
  have hbA : ¬ s.heap.size ≤ b := Nat.not_le.mpr hbl
  rw [← h0, ← h1, ← h2] at hl
  obtain ⟨fs1, hfs1⟩ := hT.rc
  obtain ⟨k, v, C2, M2, hk3, hAG2, hW, rm, ⟨r1, r2, r3, r4⟩, hMM⟩ := op_mend l hfl hAG (xs (nI (i + 1)).toNatClampNeg)
  refine lv_aload_n hx hb dL_law_356 rfl (lv_at hl 1 rfl) ?_
  refine lv_aload_n hx hb dL_law_357 rfl (lv_at hl 0 rfl) ?_
  refine lv_iload hx hb dL_law_358 (lv_at hl 4 rfl) ?_
  refine lv_iconst (v := 1) hx hb dL_law_360 (by decide) ?_
  refine lv_iadd hx hb dL_law_361 ?_
  refine z_topi (y := nI (i + 1)) (nI_add i 1) ?_
  refine va_sld hx hb hX hbl hbA hS (vp_in_nI (by omega) (by omega)) dL_law_362 ?_
  refine lv_aload_n hx hb dL_law_363 rfl (lv_at hl 3 rfl) ?_
  refine z_calli C0 hP hS (z_runSW (As := [.ref (ad 0), .int (xs (nI (i + 1)).toNatClampNeg), .ref (ad 230)]) (rest := []) C0 hTh hNc hP hS hl.1 (hW _ hT hO) lh_mend rfl rfl (Nat.le_of_ble_eq_true rfl) rfl rfl ⟨(Nat.le_of_ble_eq_true rfl), (Nat.le_of_ble_eq_true rfl)⟩ ⟨(show cells + 1 ≤ 601024 by omega), (show slots + 6 ≤ 7293034 by omega)⟩ dL_law_364) (fun r g1 H locs hP hS hp => ?_)
  obtain ⟨hr, hT2, ⟨w2, hO2, hw⟩, hF⟩ := hp
  subst hr
  have hM := hM.kept hF (fun z q1 q2 => by unfold zClO zCl; omega)
  refine lv_istore (lv' := [(5, .int (nI k)), (0, .ref b), (1, .ref (ad 0)), (2, .ref (ad 221)), (3, .ref (ad 230)), (4, .int (nI i))]) hx hb dL_law_367 hl (by decide) rfl (fun ls hl => ?_)
  obtain ⟨fs2, hfs2⟩ := hM.rc
  refine lv_aload_n hx hb dL_law_369 rfl (lv_at hl 3 rfl) ?_
  refine lv_aload_n hx hb dL_law_370 rfl (lv_at hl 1 rfl) ?_
  refine lv_iload hx hb dL_law_371 (lv_at hl 5 rfl) ?_
  refine lv_iconst (v := 1) hx hb dL_law_373 (by decide) ?_
  refine lv_iadd hx hb dL_law_374 ?_
  refine z_topi (y := nI (i + 1)) (nI_add i 1) ?_
  refine va_sld hx hb hX hbl hbA hS (vp_in_nI (by omega) (by omega)) dL_law_375 ?_
  refine z_Vi_mo (As := [.int (xs (nI (i + 1)).toNatClampNeg)]) (rest := []) C0 hP hS hl.1 (hMM _ hM) lk_L_101 hM.n0 hfs2 rfl rfl (Nat.le_of_ble_eq_true rfl) ⟨(show rm.frames + 1 ≤ 2048 by omega), (show 8 + (_ + 11) + rm.locals ≤ 84000 by omega)⟩ r1 r2 ⟨(show cells + 1 ≤ 601024 by omega), (show slots + 6 ≤ 7293034 by omega)⟩ dL_law_376 (fun r g2 H locs hP hS hp => ?_)
  obtain ⟨hr, hM2, hF2⟩ := hp
  refine lv_istore (lv' := [(6, .int r), (5, .int (nI k)), (0, .ref b), (1, .ref (ad 0)), (2, .ref (ad 221)), (3, .ref (ad 230)), (4, .int (nI i))]) hx hb dL_law_379 hl (by decide) rfl (fun ls hl => ?_)
  refine lv_aload_n hx hb dL_law_381 rfl (lv_at hl 4 rfl) ?_
  obtain ⟨az, kn, lo, dg, hM3⟩ := hM2
  refine z_Vi_eq (As := []) (rest := []) C0 hP hS hl.1 (m_X5_thrown l _ hM3) lk_L_89 hM3.n0 hM3.o rfl rfl (Nat.le_of_ble_eq_true rfl) ⟨(Nat.le_of_ble_eq_true rfl), (Nat.le_of_ble_eq_true rfl)⟩ rfl rfl ⟨(show cells + 1 ≤ 601024 by omega), (show slots + 6 ≤ 7293034 by omega)⟩ dL_law_382 (fun H locs hP hS => ?_)
  refine lv_iload hx hb dL_law_385 (lv_at hl 1 rfl) ?_
  refine lv_icmp_eq (tgt := 392) hx hb dL_law_387 (by decide) (fun _ => ?_) (fun q => absurd rfl q)
  refine lv_iload hx hb dL_law_392 (lv_at hl 1 rfl) ?_
  refine lv_if_ne (tgt := 409) hx hb dL_law_394 (by decide) (fun _ => ?_) (fun hk0 => ?_)
  · refine lv_goto (tgt := 1474) hx hb dL_law_409 (by decide) ?_
    refine W.widen (k := cells + 31) (n := slots + 260) (by omega) (by omega) ?_
    have hl := lv_sub hl (l' := [(0, .ref b), (1, .ref (ad 0)), (2, .ref (ad 221)), (3, .ref (ad 230)), (4, .int (nI i))]) [2, 3, 4, 5, 6] rfl
    rw [h0, h1, h2] at hl
    exact nx _ _ _ _ _ _ hP hS ⟨C2, M2, _, _, hT2.kept hF2 (fun z q1 q2 => by unfold zCl at q1; dsimp only [zRg] at q2; omega), ⟨az, kn, lo, dg, hM3⟩, hO2.kept hF2 (by dsimp only [zRg]; omega), hAG2⟩ h0 h1 h2 hl
  · have hk : k = 0 := (nI_eq (by omega) (by decide)).mp (hk0.trans nI_0.symm)
    have hrv := hr hk
    have hwv := hw hk
    have hO3 := hO2.kept hF2 (by dsimp only [zRg]; omega)
    obtain ⟨hO4, f, hO5, hO6⟩ := id hO3
    refine lv_aload_n hx hb dL_law_397 rfl (lv_at hl 5 rfl) ?_
    refine lv_iconst (v := 0) hx hb dL_law_398 (by decide) ?_
    refine z_lald C0 hP hO4 hO5 (zIx_of nI_0.symm (by decide) (by decide)) dL_law_399 ?_
    refine lv_iload hx hb dL_law_400 (lv_at hl 0 rfl) ?_
    refine lv_i2l (v := Int32.toInt64 r) hx hb dL_law_402 rfl ?_
    refine W.lcmp hx hb dL_law_403 ?_
    refine lv_if_eq (tgt := 409) hx hb dL_law_404 (by decide) (fun _ => ?_) (fun q => absurd ((lg_cmp_eq _ _).mpr (hO6.trans (hwv.trans (congrArg Int32.toInt64 hrv.symm)))) q)
    refine lv_goto (tgt := 1474) hx hb dL_law_409 (by decide) ?_
    refine W.widen (k := cells + 31) (n := slots + 260) (by omega) (by omega) ?_
    have hl := lv_sub hl (l' := [(0, .ref b), (1, .ref (ad 0)), (2, .ref (ad 221)), (3, .ref (ad 230)), (4, .int (nI i))]) [2, 3, 4, 5, 6] rfl
    rw [h0, h1, h2] at hl
    exact nx _ _ _ _ _ _ hP hS ⟨C2, M2, _, _, hT2.kept hF2 (fun z q1 q2 => by unfold zCl at q1; dsimp only [zRg] at q2; omega), ⟨az, kn, lo, dg, hM3⟩, hO2.kept hF2 (by dsimp only [zRg]; omega), hAG2⟩ h0 h1 h2 hl
set_option maxHeartbeats 1000000 in
theorem lc_renew (hfl : l.stackTraces = false) (F : lwF p s m c meth b L xs D cy) {i cells slots : Nat} (hi : i + 4 ≤ L) (hc : cells + 31 ≤ 601024) (hs : slots + 260 ≤ 7293034) (nx : lwG p l e s m below meth c b D cy a0 a1 a2 1474 i (cells + 31) (slots + 260)) : lwG p l e s m below meth c b D cy a0 a1 a2 412 i cells slots := by
  intro K ad g H locs ls hP hS hI h0 h1 h2 hl
  obtain ⟨C, M, th, w, hT, hM, hO, hAG⟩ := hI
  obtain ⟨C0, hTh, hNc, hN, hX, hbl, hL⟩ := F
  have hx := C0.1; have hb := C0.2.1
  have hbA : ¬ s.heap.size ≤ b := Nat.not_le.mpr hbl
  rw [← h0, ← h1, ← h2] at hl
  obtain ⟨fs1, hfs1⟩ := hT.rc
  obtain ⟨k, v, C2, M2, hk3, hAG2, hW, rm, ⟨r1, r2, r3, r4⟩, hMM⟩ := op_renew l hfl hAG (xs (nI (i + 1)).toNatClampNeg)
  refine lv_aload_n hx hb dL_law_412 rfl (lv_at hl 1 rfl) ?_
  refine lv_aload_n hx hb dL_law_413 rfl (lv_at hl 0 rfl) ?_
  refine lv_iload hx hb dL_law_414 (lv_at hl 4 rfl) ?_
  refine lv_iconst (v := 1) hx hb dL_law_416 (by decide) ?_
  refine lv_iadd hx hb dL_law_417 ?_
  refine z_topi (y := nI (i + 1)) (nI_add i 1) ?_
  refine va_sld hx hb hX hbl hbA hS (vp_in_nI (by omega) (by omega)) dL_law_418 ?_
  refine lv_aload_n hx hb dL_law_419 rfl (lv_at hl 3 rfl) ?_
  refine z_calli C0 hP hS (z_runSW (As := [.ref (ad 0), .int (xs (nI (i + 1)).toNatClampNeg), .ref (ad 230)]) (rest := []) C0 hTh hNc hP hS hl.1 (hW _ hT hO) lh_renew rfl rfl (Nat.le_of_ble_eq_true rfl) rfl rfl ⟨(Nat.le_of_ble_eq_true rfl), (Nat.le_of_ble_eq_true rfl)⟩ ⟨(show cells + 1 ≤ 601024 by omega), (show slots + 6 ≤ 7293034 by omega)⟩ dL_law_420) (fun r g1 H locs hP hS hp => ?_)
  obtain ⟨hr, hT2, ⟨w2, hO2, hw⟩, hF⟩ := hp
  subst hr
  have hM := hM.kept hF (fun z q1 q2 => by unfold zClO zCl; omega)
  refine lv_istore (lv' := [(5, .int (nI k)), (0, .ref b), (1, .ref (ad 0)), (2, .ref (ad 221)), (3, .ref (ad 230)), (4, .int (nI i))]) hx hb dL_law_423 hl (by decide) rfl (fun ls hl => ?_)
  obtain ⟨fs2, hfs2⟩ := hM.rc
  refine lv_aload_n hx hb dL_law_425 rfl (lv_at hl 3 rfl) ?_
  refine lv_aload_n hx hb dL_law_426 rfl (lv_at hl 1 rfl) ?_
  refine lv_iload hx hb dL_law_427 (lv_at hl 5 rfl) ?_
  refine lv_iconst (v := 1) hx hb dL_law_429 (by decide) ?_
  refine lv_iadd hx hb dL_law_430 ?_
  refine z_topi (y := nI (i + 1)) (nI_add i 1) ?_
  refine va_sld hx hb hX hbl hbA hS (vp_in_nI (by omega) (by omega)) dL_law_431 ?_
  refine z_Vi_mo (As := [.int (xs (nI (i + 1)).toNatClampNeg)]) (rest := []) C0 hP hS hl.1 (hMM _ hM) lk_L_104 hM.n0 hfs2 rfl rfl (Nat.le_of_ble_eq_true rfl) ⟨(show rm.frames + 1 ≤ 2048 by omega), (show 8 + (_ + 11) + rm.locals ≤ 84000 by omega)⟩ r1 r2 ⟨(show cells + 1 ≤ 601024 by omega), (show slots + 6 ≤ 7293034 by omega)⟩ dL_law_432 (fun r g2 H locs hP hS hp => ?_)
  obtain ⟨hr, hM2, hF2⟩ := hp
  refine lv_istore (lv' := [(6, .int r), (5, .int (nI k)), (0, .ref b), (1, .ref (ad 0)), (2, .ref (ad 221)), (3, .ref (ad 230)), (4, .int (nI i))]) hx hb dL_law_435 hl (by decide) rfl (fun ls hl => ?_)
  refine lv_aload_n hx hb dL_law_437 rfl (lv_at hl 4 rfl) ?_
  obtain ⟨az, kn, lo, dg, hM3⟩ := hM2
  refine z_Vi_eq (As := []) (rest := []) C0 hP hS hl.1 (m_X5_thrown l _ hM3) lk_L_89 hM3.n0 hM3.o rfl rfl (Nat.le_of_ble_eq_true rfl) ⟨(Nat.le_of_ble_eq_true rfl), (Nat.le_of_ble_eq_true rfl)⟩ rfl rfl ⟨(show cells + 1 ≤ 601024 by omega), (show slots + 6 ≤ 7293034 by omega)⟩ dL_law_438 (fun H locs hP hS => ?_)
  refine lv_iload hx hb dL_law_441 (lv_at hl 1 rfl) ?_
  refine lv_icmp_eq (tgt := 448) hx hb dL_law_443 (by decide) (fun _ => ?_) (fun q => absurd rfl q)
  refine lv_iload hx hb dL_law_448 (lv_at hl 1 rfl) ?_
  refine lv_if_ne (tgt := 465) hx hb dL_law_450 (by decide) (fun _ => ?_) (fun hk0 => ?_)
  · refine lv_goto (tgt := 1474) hx hb dL_law_465 (by decide) ?_
    refine W.widen (k := cells + 31) (n := slots + 260) (by omega) (by omega) ?_
    have hl := lv_sub hl (l' := [(0, .ref b), (1, .ref (ad 0)), (2, .ref (ad 221)), (3, .ref (ad 230)), (4, .int (nI i))]) [2, 3, 4, 5, 6] rfl
    rw [h0, h1, h2] at hl
    exact nx _ _ _ _ _ _ hP hS ⟨C2, M2, _, _, hT2.kept hF2 (fun z q1 q2 => by unfold zCl at q1; dsimp only [zRg] at q2; omega), ⟨az, kn, lo, dg, hM3⟩, hO2.kept hF2 (by dsimp only [zRg]; omega), hAG2⟩ h0 h1 h2 hl
  · have hk : k = 0 := (nI_eq (by omega) (by decide)).mp (hk0.trans nI_0.symm)
    have hrv := hr hk
    have hwv := hw hk
    have hO3 := hO2.kept hF2 (by dsimp only [zRg]; omega)
    obtain ⟨hO4, f, hO5, hO6⟩ := id hO3
    refine lv_aload_n hx hb dL_law_453 rfl (lv_at hl 5 rfl) ?_
    refine lv_iconst (v := 0) hx hb dL_law_454 (by decide) ?_
    refine z_lald C0 hP hO4 hO5 (zIx_of nI_0.symm (by decide) (by decide)) dL_law_455 ?_
    refine lv_iload hx hb dL_law_456 (lv_at hl 0 rfl) ?_
    refine lv_i2l (v := Int32.toInt64 r) hx hb dL_law_458 rfl ?_
    refine W.lcmp hx hb dL_law_459 ?_
    refine lv_if_eq (tgt := 465) hx hb dL_law_460 (by decide) (fun _ => ?_) (fun q => absurd ((lg_cmp_eq _ _).mpr (hO6.trans (hwv.trans (congrArg Int32.toInt64 hrv.symm)))) q)
    refine lv_goto (tgt := 1474) hx hb dL_law_465 (by decide) ?_
    refine W.widen (k := cells + 31) (n := slots + 260) (by omega) (by omega) ?_
    have hl := lv_sub hl (l' := [(0, .ref b), (1, .ref (ad 0)), (2, .ref (ad 221)), (3, .ref (ad 230)), (4, .int (nI i))]) [2, 3, 4, 5, 6] rfl
    rw [h0, h1, h2] at hl
    exact nx _ _ _ _ _ _ hP hS ⟨C2, M2, _, _, hT2.kept hF2 (fun z q1 q2 => by unfold zCl at q1; dsimp only [zRg] at q2; omega), ⟨az, kn, lo, dg, hM3⟩, hO2.kept hF2 (by dsimp only [zRg]; omega), hAG2⟩ h0 h1 h2 hl
set_option maxHeartbeats 1000000 in
theorem lc_dye (hfl : l.stackTraces = false) (F : lwF p s m c meth b L xs D cy) {i cells slots : Nat} (hi : i + 4 ≤ L) (hc : cells + 31 ≤ 601024) (hs : slots + 260 ≤ 7293034) (nx : lwG p l e s m below meth c b D cy a0 a1 a2 1474 i (cells + 31) (slots + 260)) : lwG p l e s m below meth c b D cy a0 a1 a2 468 i cells slots := by
  intro K ad g H locs ls hP hS hI h0 h1 h2 hl
  obtain ⟨C, M, th, w, hT, hM, hO, hAG⟩ := hI
  obtain ⟨C0, hTh, hNc, hN, hX, hbl, hL⟩ := F
  have hx := C0.1; have hb := C0.2.1
  have hbA : ¬ s.heap.size ≤ b := Nat.not_le.mpr hbl
  rw [← h0, ← h1, ← h2] at hl
  obtain ⟨fs1, hfs1⟩ := hT.rc
  obtain ⟨k, v, C2, M2, hk3, hAG2, hW, rm, ⟨r1, r2, r3, r4⟩, hMM⟩ := op_dye l hfl hAG (xs (nI (i + 1)).toNatClampNeg) (xs (nI (i + 2)).toNatClampNeg)
  refine lv_aload_n hx hb dL_law_468 rfl (lv_at hl 1 rfl) ?_
  refine lv_aload_n hx hb dL_law_469 rfl (lv_at hl 0 rfl) ?_
  refine lv_iload hx hb dL_law_470 (lv_at hl 4 rfl) ?_
  refine lv_iconst (v := 1) hx hb dL_law_472 (by decide) ?_
  refine lv_iadd hx hb dL_law_473 ?_
  refine z_topi (y := nI (i + 1)) (nI_add i 1) ?_
  refine va_sld hx hb hX hbl hbA hS (vp_in_nI (by omega) (by omega)) dL_law_474 ?_
  refine lv_aload_n hx hb dL_law_475 rfl (lv_at hl 0 rfl) ?_
  refine lv_iload hx hb dL_law_476 (lv_at hl 4 rfl) ?_
  refine lv_iconst (v := 2) hx hb dL_law_478 (by decide) ?_
  refine lv_iadd hx hb dL_law_479 ?_
  refine z_topi (y := nI (i + 2)) (nI_add i 2) ?_
  refine va_sld hx hb hX hbl hbA hS (vp_in_nI (by omega) (by omega)) dL_law_480 ?_
  refine lv_aload_n hx hb dL_law_481 rfl (lv_at hl 3 rfl) ?_
  refine z_calli C0 hP hS (z_runSW (As := [.ref (ad 0), .int (xs (nI (i + 1)).toNatClampNeg), .int (xs (nI (i + 2)).toNatClampNeg), .ref (ad 230)]) (rest := []) C0 hTh hNc hP hS hl.1 (hW _ hT hO) lh_dye rfl rfl (Nat.le_of_ble_eq_true rfl) rfl rfl ⟨(Nat.le_of_ble_eq_true rfl), (Nat.le_of_ble_eq_true rfl)⟩ ⟨(show cells + 1 ≤ 601024 by omega), (show slots + 6 ≤ 7293034 by omega)⟩ dL_law_482) (fun r g1 H locs hP hS hp => ?_)
  obtain ⟨hr, hT2, ⟨w2, hO2, hw⟩, hF⟩ := hp
  subst hr
  have hM := hM.kept hF (fun z q1 q2 => by unfold zClO zCl; omega)
  refine lv_istore (lv' := [(5, .int (nI k)), (0, .ref b), (1, .ref (ad 0)), (2, .ref (ad 221)), (3, .ref (ad 230)), (4, .int (nI i))]) hx hb dL_law_485 hl (by decide) rfl (fun ls hl => ?_)
  obtain ⟨fs2, hfs2⟩ := hM.rc
  refine lv_aload_n hx hb dL_law_487 rfl (lv_at hl 3 rfl) ?_
  refine lv_aload_n hx hb dL_law_488 rfl (lv_at hl 1 rfl) ?_
  refine lv_iload hx hb dL_law_489 (lv_at hl 5 rfl) ?_
  refine lv_iconst (v := 1) hx hb dL_law_491 (by decide) ?_
  refine lv_iadd hx hb dL_law_492 ?_
  refine z_topi (y := nI (i + 1)) (nI_add i 1) ?_
  refine va_sld hx hb hX hbl hbA hS (vp_in_nI (by omega) (by omega)) dL_law_493 ?_
  refine lv_aload_n hx hb dL_law_494 rfl (lv_at hl 1 rfl) ?_
  refine lv_iload hx hb dL_law_495 (lv_at hl 5 rfl) ?_
  refine lv_iconst (v := 2) hx hb dL_law_497 (by decide) ?_
  refine lv_iadd hx hb dL_law_498 ?_
  refine z_topi (y := nI (i + 2)) (nI_add i 2) ?_
  refine va_sld hx hb hX hbl hbA hS (vp_in_nI (by omega) (by omega)) dL_law_499 ?_
  refine z_Vi_mo (As := [.int (xs (nI (i + 1)).toNatClampNeg), .int (xs (nI (i + 2)).toNatClampNeg)]) (rest := []) C0 hP hS hl.1 (hMM _ hM) lk_L_107 hM.n0 hfs2 rfl rfl (Nat.le_of_ble_eq_true rfl) ⟨(show rm.frames + 1 ≤ 2048 by omega), (show 8 + (_ + 11) + rm.locals ≤ 84000 by omega)⟩ r1 r2 ⟨(show cells + 1 ≤ 601024 by omega), (show slots + 6 ≤ 7293034 by omega)⟩ dL_law_500 (fun r g2 H locs hP hS hp => ?_)
  obtain ⟨hr, hM2, hF2⟩ := hp
  refine lv_istore (lv' := [(6, .int r), (5, .int (nI k)), (0, .ref b), (1, .ref (ad 0)), (2, .ref (ad 221)), (3, .ref (ad 230)), (4, .int (nI i))]) hx hb dL_law_503 hl (by decide) rfl (fun ls hl => ?_)
  refine lv_aload_n hx hb dL_law_505 rfl (lv_at hl 4 rfl) ?_
  obtain ⟨az, kn, lo, dg, hM3⟩ := hM2
  refine z_Vi_eq (As := []) (rest := []) C0 hP hS hl.1 (m_X5_thrown l _ hM3) lk_L_89 hM3.n0 hM3.o rfl rfl (Nat.le_of_ble_eq_true rfl) ⟨(Nat.le_of_ble_eq_true rfl), (Nat.le_of_ble_eq_true rfl)⟩ rfl rfl ⟨(show cells + 1 ≤ 601024 by omega), (show slots + 6 ≤ 7293034 by omega)⟩ dL_law_506 (fun H locs hP hS => ?_)
  refine lv_iload hx hb dL_law_509 (lv_at hl 1 rfl) ?_
  refine lv_icmp_eq (tgt := 516) hx hb dL_law_511 (by decide) (fun _ => ?_) (fun q => absurd rfl q)
  refine lv_iload hx hb dL_law_516 (lv_at hl 1 rfl) ?_
  refine lv_if_ne (tgt := 533) hx hb dL_law_518 (by decide) (fun _ => ?_) (fun hk0 => ?_)
  · refine lv_goto (tgt := 1474) hx hb dL_law_533 (by decide) ?_
    refine W.widen (k := cells + 31) (n := slots + 260) (by omega) (by omega) ?_
    have hl := lv_sub hl (l' := [(0, .ref b), (1, .ref (ad 0)), (2, .ref (ad 221)), (3, .ref (ad 230)), (4, .int (nI i))]) [2, 3, 4, 5, 6] rfl
    rw [h0, h1, h2] at hl
    exact nx _ _ _ _ _ _ hP hS ⟨C2, M2, _, _, hT2.kept hF2 (fun z q1 q2 => by unfold zCl at q1; dsimp only [zRg] at q2; omega), ⟨az, kn, lo, dg, hM3⟩, hO2.kept hF2 (by dsimp only [zRg]; omega), hAG2⟩ h0 h1 h2 hl
  · have hk : k = 0 := (nI_eq (by omega) (by decide)).mp (hk0.trans nI_0.symm)
    have hrv := hr hk
    have hwv := hw hk
    have hO3 := hO2.kept hF2 (by dsimp only [zRg]; omega)
    obtain ⟨hO4, f, hO5, hO6⟩ := id hO3
    refine lv_aload_n hx hb dL_law_521 rfl (lv_at hl 5 rfl) ?_
    refine lv_iconst (v := 0) hx hb dL_law_522 (by decide) ?_
    refine z_lald C0 hP hO4 hO5 (zIx_of nI_0.symm (by decide) (by decide)) dL_law_523 ?_
    refine lv_iload hx hb dL_law_524 (lv_at hl 0 rfl) ?_
    refine lv_i2l (v := Int32.toInt64 r) hx hb dL_law_526 rfl ?_
    refine W.lcmp hx hb dL_law_527 ?_
    refine lv_if_eq (tgt := 533) hx hb dL_law_528 (by decide) (fun _ => ?_) (fun q => absurd ((lg_cmp_eq _ _).mpr (hO6.trans (hwv.trans (congrArg Int32.toInt64 hrv.symm)))) q)
    refine lv_goto (tgt := 1474) hx hb dL_law_533 (by decide) ?_
    refine W.widen (k := cells + 31) (n := slots + 260) (by omega) (by omega) ?_
    have hl := lv_sub hl (l' := [(0, .ref b), (1, .ref (ad 0)), (2, .ref (ad 221)), (3, .ref (ad 230)), (4, .int (nI i))]) [2, 3, 4, 5, 6] rfl
    rw [h0, h1, h2] at hl
    exact nx _ _ _ _ _ _ hP hS ⟨C2, M2, _, _, hT2.kept hF2 (fun z q1 q2 => by unfold zCl at q1; dsimp only [zRg] at q2; omega), ⟨az, kn, lo, dg, hM3⟩, hO2.kept hF2 (by dsimp only [zRg]; omega), hAG2⟩ h0 h1 h2 hl
set_option maxHeartbeats 1000000 in
theorem lc_set (hfl : l.stackTraces = false) (F : lwF p s m c meth b L xs D cy) {i cells slots : Nat} (hi : i + 4 ≤ L) (hc : cells + 31 ≤ 601024) (hs : slots + 260 ≤ 7293034) (nx : lwG p l e s m below meth c b D cy a0 a1 a2 1474 i (cells + 31) (slots + 260)) : lwG p l e s m below meth c b D cy a0 a1 a2 536 i cells slots := by
  intro K ad g H locs ls hP hS hI h0 h1 h2 hl
  obtain ⟨C, M, th, w, hT, hM, hO, hAG⟩ := hI
  obtain ⟨C0, hTh, hNc, hN, hX, hbl, hL⟩ := F
  have hx := C0.1; have hb := C0.2.1
  have hbA : ¬ s.heap.size ≤ b := Nat.not_le.mpr hbl
  rw [← h0, ← h1, ← h2] at hl
  obtain ⟨fs1, hfs1⟩ := hT.rc
  obtain ⟨k, v, C2, M2, hk3, hAG2, hW, rm, ⟨r1, r2, r3, r4⟩, hMM⟩ := op_set l hfl hAG (xs (nI (i + 1)).toNatClampNeg)
  refine lv_aload_n hx hb dL_law_536 rfl (lv_at hl 1 rfl) ?_
  refine lv_aload_n hx hb dL_law_537 rfl (lv_at hl 0 rfl) ?_
  refine lv_iload hx hb dL_law_538 (lv_at hl 4 rfl) ?_
  refine lv_iconst (v := 1) hx hb dL_law_540 (by decide) ?_
  refine lv_iadd hx hb dL_law_541 ?_
  refine z_topi (y := nI (i + 1)) (nI_add i 1) ?_
  refine va_sld hx hb hX hbl hbA hS (vp_in_nI (by omega) (by omega)) dL_law_542 ?_
  refine lv_aload_n hx hb dL_law_543 rfl (lv_at hl 3 rfl) ?_
  refine z_calli C0 hP hS (z_runSW (As := [.ref (ad 0), .int (xs (nI (i + 1)).toNatClampNeg), .ref (ad 230)]) (rest := []) C0 hTh hNc hP hS hl.1 (hW _ hT hO) lh_set rfl rfl (Nat.le_of_ble_eq_true rfl) rfl rfl ⟨(Nat.le_of_ble_eq_true rfl), (Nat.le_of_ble_eq_true rfl)⟩ ⟨(show cells + 1 ≤ 601024 by omega), (show slots + 6 ≤ 7293034 by omega)⟩ dL_law_544) (fun r g1 H locs hP hS hp => ?_)
  obtain ⟨hr, hT2, ⟨w2, hO2, hw⟩, hF⟩ := hp
  subst hr
  have hM := hM.kept hF (fun z q1 q2 => by unfold zClO zCl; omega)
  refine lv_istore (lv' := [(5, .int (nI k)), (0, .ref b), (1, .ref (ad 0)), (2, .ref (ad 221)), (3, .ref (ad 230)), (4, .int (nI i))]) hx hb dL_law_547 hl (by decide) rfl (fun ls hl => ?_)
  obtain ⟨fs2, hfs2⟩ := hM.rc
  refine lv_aload_n hx hb dL_law_549 rfl (lv_at hl 3 rfl) ?_
  refine lv_aload_n hx hb dL_law_550 rfl (lv_at hl 1 rfl) ?_
  refine lv_iload hx hb dL_law_551 (lv_at hl 5 rfl) ?_
  refine lv_iconst (v := 1) hx hb dL_law_553 (by decide) ?_
  refine lv_iadd hx hb dL_law_554 ?_
  refine z_topi (y := nI (i + 1)) (nI_add i 1) ?_
  refine va_sld hx hb hX hbl hbA hS (vp_in_nI (by omega) (by omega)) dL_law_555 ?_
  refine z_Vi_mo (As := [.int (xs (nI (i + 1)).toNatClampNeg)]) (rest := []) C0 hP hS hl.1 (hMM _ hM) lk_L_110 hM.n0 hfs2 rfl rfl (Nat.le_of_ble_eq_true rfl) ⟨(show rm.frames + 1 ≤ 2048 by omega), (show 8 + (_ + 11) + rm.locals ≤ 84000 by omega)⟩ r1 r2 ⟨(show cells + 1 ≤ 601024 by omega), (show slots + 6 ≤ 7293034 by omega)⟩ dL_law_556 (fun r g2 H locs hP hS hp => ?_)
  obtain ⟨hr, hM2, hF2⟩ := hp
  refine lv_istore (lv' := [(6, .int r), (5, .int (nI k)), (0, .ref b), (1, .ref (ad 0)), (2, .ref (ad 221)), (3, .ref (ad 230)), (4, .int (nI i))]) hx hb dL_law_559 hl (by decide) rfl (fun ls hl => ?_)
  refine lv_aload_n hx hb dL_law_561 rfl (lv_at hl 4 rfl) ?_
  obtain ⟨az, kn, lo, dg, hM3⟩ := hM2
  refine z_Vi_eq (As := []) (rest := []) C0 hP hS hl.1 (m_X5_thrown l _ hM3) lk_L_89 hM3.n0 hM3.o rfl rfl (Nat.le_of_ble_eq_true rfl) ⟨(Nat.le_of_ble_eq_true rfl), (Nat.le_of_ble_eq_true rfl)⟩ rfl rfl ⟨(show cells + 1 ≤ 601024 by omega), (show slots + 6 ≤ 7293034 by omega)⟩ dL_law_562 (fun H locs hP hS => ?_)
  refine lv_iload hx hb dL_law_565 (lv_at hl 1 rfl) ?_
  refine lv_icmp_eq (tgt := 572) hx hb dL_law_567 (by decide) (fun _ => ?_) (fun q => absurd rfl q)
  refine lv_iload hx hb dL_law_572 (lv_at hl 1 rfl) ?_
  refine lv_if_ne (tgt := 589) hx hb dL_law_574 (by decide) (fun _ => ?_) (fun hk0 => ?_)
  · refine lv_goto (tgt := 1474) hx hb dL_law_589 (by decide) ?_
    refine W.widen (k := cells + 31) (n := slots + 260) (by omega) (by omega) ?_
    have hl := lv_sub hl (l' := [(0, .ref b), (1, .ref (ad 0)), (2, .ref (ad 221)), (3, .ref (ad 230)), (4, .int (nI i))]) [2, 3, 4, 5, 6] rfl
    rw [h0, h1, h2] at hl
    exact nx _ _ _ _ _ _ hP hS ⟨C2, M2, _, _, hT2.kept hF2 (fun z q1 q2 => by unfold zCl at q1; dsimp only [zRg] at q2; omega), ⟨az, kn, lo, dg, hM3⟩, hO2.kept hF2 (by dsimp only [zRg]; omega), hAG2⟩ h0 h1 h2 hl
  · have hk : k = 0 := (nI_eq (by omega) (by decide)).mp (hk0.trans nI_0.symm)
    have hrv := hr hk
    have hwv := hw hk
    have hO3 := hO2.kept hF2 (by dsimp only [zRg]; omega)
    obtain ⟨hO4, f, hO5, hO6⟩ := id hO3
    refine lv_aload_n hx hb dL_law_577 rfl (lv_at hl 5 rfl) ?_
    refine lv_iconst (v := 0) hx hb dL_law_578 (by decide) ?_
    refine z_lald C0 hP hO4 hO5 (zIx_of nI_0.symm (by decide) (by decide)) dL_law_579 ?_
    refine lv_iload hx hb dL_law_580 (lv_at hl 0 rfl) ?_
    refine lv_i2l (v := Int32.toInt64 r) hx hb dL_law_582 rfl ?_
    refine W.lcmp hx hb dL_law_583 ?_
    refine lv_if_eq (tgt := 589) hx hb dL_law_584 (by decide) (fun _ => ?_) (fun q => absurd ((lg_cmp_eq _ _).mpr (hO6.trans (hwv.trans (congrArg Int32.toInt64 hrv.symm)))) q)
    refine lv_goto (tgt := 1474) hx hb dL_law_589 (by decide) ?_
    refine W.widen (k := cells + 31) (n := slots + 260) (by omega) (by omega) ?_
    have hl := lv_sub hl (l' := [(0, .ref b), (1, .ref (ad 0)), (2, .ref (ad 221)), (3, .ref (ad 230)), (4, .int (nI i))]) [2, 3, 4, 5, 6] rfl
    rw [h0, h1, h2] at hl
    exact nx _ _ _ _ _ _ hP hS ⟨C2, M2, _, _, hT2.kept hF2 (fun z q1 q2 => by unfold zCl at q1; dsimp only [zRg] at q2; omega), ⟨az, kn, lo, dg, hM3⟩, hO2.kept hF2 (by dsimp only [zRg]; omega), hAG2⟩ h0 h1 h2 hl
set_option maxHeartbeats 1000000 in
theorem lc_append (hfl : l.stackTraces = false) (F : lwF p s m c meth b L xs D cy) {i cells slots : Nat} (hi : i + 4 ≤ L) (hc : cells + 31 ≤ 601024) (hs : slots + 260 ≤ 7293034) (nx : lwG p l e s m below meth c b D cy a0 a1 a2 1474 i (cells + 31) (slots + 260)) : lwG p l e s m below meth c b D cy a0 a1 a2 592 i cells slots := by
  intro K ad g H locs ls hP hS hI h0 h1 h2 hl
  obtain ⟨C, M, th, w, hT, hM, hO, hAG⟩ := hI
  obtain ⟨C0, hTh, hNc, hN, hX, hbl, hL⟩ := F
  have hx := C0.1; have hb := C0.2.1
  have hbA : ¬ s.heap.size ≤ b := Nat.not_le.mpr hbl
  rw [← h0, ← h1, ← h2] at hl
  obtain ⟨fs1, hfs1⟩ := hT.rc
  obtain ⟨k, v, C2, M2, hk3, hAG2, hW, rm, ⟨r1, r2, r3, r4⟩, hMM⟩ := op_append l hfl hAG (xs (nI (i + 1)).toNatClampNeg)
  refine lv_aload_n hx hb dL_law_592 rfl (lv_at hl 1 rfl) ?_
  refine lv_aload_n hx hb dL_law_593 rfl (lv_at hl 0 rfl) ?_
  refine lv_iload hx hb dL_law_594 (lv_at hl 4 rfl) ?_
  refine lv_iconst (v := 1) hx hb dL_law_596 (by decide) ?_
  refine lv_iadd hx hb dL_law_597 ?_
  refine z_topi (y := nI (i + 1)) (nI_add i 1) ?_
  refine va_sld hx hb hX hbl hbA hS (vp_in_nI (by omega) (by omega)) dL_law_598 ?_
  refine lv_aload_n hx hb dL_law_599 rfl (lv_at hl 3 rfl) ?_
  refine z_calli C0 hP hS (z_runSW (As := [.ref (ad 0), .int (xs (nI (i + 1)).toNatClampNeg), .ref (ad 230)]) (rest := []) C0 hTh hNc hP hS hl.1 (hW _ hT hO) lh_append rfl rfl (Nat.le_of_ble_eq_true rfl) rfl rfl ⟨(Nat.le_of_ble_eq_true rfl), (Nat.le_of_ble_eq_true rfl)⟩ ⟨(show cells + 1 ≤ 601024 by omega), (show slots + 6 ≤ 7293034 by omega)⟩ dL_law_600) (fun r g1 H locs hP hS hp => ?_)
  obtain ⟨hr, hT2, ⟨w2, hO2, hw⟩, hF⟩ := hp
  subst hr
  have hM := hM.kept hF (fun z q1 q2 => by unfold zClO zCl; omega)
  refine lv_istore (lv' := [(5, .int (nI k)), (0, .ref b), (1, .ref (ad 0)), (2, .ref (ad 221)), (3, .ref (ad 230)), (4, .int (nI i))]) hx hb dL_law_603 hl (by decide) rfl (fun ls hl => ?_)
  obtain ⟨fs2, hfs2⟩ := hM.rc
  refine lv_aload_n hx hb dL_law_605 rfl (lv_at hl 3 rfl) ?_
  refine lv_aload_n hx hb dL_law_606 rfl (lv_at hl 1 rfl) ?_
  refine lv_iload hx hb dL_law_607 (lv_at hl 5 rfl) ?_
  refine lv_iconst (v := 1) hx hb dL_law_609 (by decide) ?_
  refine lv_iadd hx hb dL_law_610 ?_
  refine z_topi (y := nI (i + 1)) (nI_add i 1) ?_
  refine va_sld hx hb hX hbl hbA hS (vp_in_nI (by omega) (by omega)) dL_law_611 ?_
  refine z_Vi_mo (As := [.int (xs (nI (i + 1)).toNatClampNeg)]) (rest := []) C0 hP hS hl.1 (hMM _ hM) lk_L_113 hM.n0 hfs2 rfl rfl (Nat.le_of_ble_eq_true rfl) ⟨(show rm.frames + 1 ≤ 2048 by omega), (show 8 + (_ + 11) + rm.locals ≤ 84000 by omega)⟩ r1 r2 ⟨(show cells + 1 ≤ 601024 by omega), (show slots + 6 ≤ 7293034 by omega)⟩ dL_law_612 (fun r g2 H locs hP hS hp => ?_)
  obtain ⟨hr, hM2, hF2⟩ := hp
  refine lv_istore (lv' := [(6, .int r), (5, .int (nI k)), (0, .ref b), (1, .ref (ad 0)), (2, .ref (ad 221)), (3, .ref (ad 230)), (4, .int (nI i))]) hx hb dL_law_615 hl (by decide) rfl (fun ls hl => ?_)
  refine lv_aload_n hx hb dL_law_617 rfl (lv_at hl 4 rfl) ?_
  obtain ⟨az, kn, lo, dg, hM3⟩ := hM2
  refine z_Vi_eq (As := []) (rest := []) C0 hP hS hl.1 (m_X5_thrown l _ hM3) lk_L_89 hM3.n0 hM3.o rfl rfl (Nat.le_of_ble_eq_true rfl) ⟨(Nat.le_of_ble_eq_true rfl), (Nat.le_of_ble_eq_true rfl)⟩ rfl rfl ⟨(show cells + 1 ≤ 601024 by omega), (show slots + 6 ≤ 7293034 by omega)⟩ dL_law_618 (fun H locs hP hS => ?_)
  refine lv_iload hx hb dL_law_621 (lv_at hl 1 rfl) ?_
  refine lv_icmp_eq (tgt := 628) hx hb dL_law_623 (by decide) (fun _ => ?_) (fun q => absurd rfl q)
  refine lv_iload hx hb dL_law_628 (lv_at hl 1 rfl) ?_
  refine lv_if_ne (tgt := 645) hx hb dL_law_630 (by decide) (fun _ => ?_) (fun hk0 => ?_)
  · refine lv_goto (tgt := 1474) hx hb dL_law_645 (by decide) ?_
    refine W.widen (k := cells + 31) (n := slots + 260) (by omega) (by omega) ?_
    have hl := lv_sub hl (l' := [(0, .ref b), (1, .ref (ad 0)), (2, .ref (ad 221)), (3, .ref (ad 230)), (4, .int (nI i))]) [2, 3, 4, 5, 6] rfl
    rw [h0, h1, h2] at hl
    exact nx _ _ _ _ _ _ hP hS ⟨C2, M2, _, _, hT2.kept hF2 (fun z q1 q2 => by unfold zCl at q1; dsimp only [zRg] at q2; omega), ⟨az, kn, lo, dg, hM3⟩, hO2.kept hF2 (by dsimp only [zRg]; omega), hAG2⟩ h0 h1 h2 hl
  · have hk : k = 0 := (nI_eq (by omega) (by decide)).mp (hk0.trans nI_0.symm)
    have hrv := hr hk
    have hwv := hw hk
    have hO3 := hO2.kept hF2 (by dsimp only [zRg]; omega)
    obtain ⟨hO4, f, hO5, hO6⟩ := id hO3
    refine lv_aload_n hx hb dL_law_633 rfl (lv_at hl 5 rfl) ?_
    refine lv_iconst (v := 0) hx hb dL_law_634 (by decide) ?_
    refine z_lald C0 hP hO4 hO5 (zIx_of nI_0.symm (by decide) (by decide)) dL_law_635 ?_
    refine lv_iload hx hb dL_law_636 (lv_at hl 0 rfl) ?_
    refine lv_i2l (v := Int32.toInt64 r) hx hb dL_law_638 rfl ?_
    refine W.lcmp hx hb dL_law_639 ?_
    refine lv_if_eq (tgt := 645) hx hb dL_law_640 (by decide) (fun _ => ?_) (fun q => absurd ((lg_cmp_eq _ _).mpr (hO6.trans (hwv.trans (congrArg Int32.toInt64 hrv.symm)))) q)
    refine lv_goto (tgt := 1474) hx hb dL_law_645 (by decide) ?_
    refine W.widen (k := cells + 31) (n := slots + 260) (by omega) (by omega) ?_
    have hl := lv_sub hl (l' := [(0, .ref b), (1, .ref (ad 0)), (2, .ref (ad 221)), (3, .ref (ad 230)), (4, .int (nI i))]) [2, 3, 4, 5, 6] rfl
    rw [h0, h1, h2] at hl
    exact nx _ _ _ _ _ _ hP hS ⟨C2, M2, _, _, hT2.kept hF2 (fun z q1 q2 => by unfold zCl at q1; dsimp only [zRg] at q2; omega), ⟨az, kn, lo, dg, hM3⟩, hO2.kept hF2 (by dsimp only [zRg]; omega), hAG2⟩ h0 h1 h2 hl
set_option maxHeartbeats 1000000 in
theorem lc_clearBuffer (hfl : l.stackTraces = false) (F : lwF p s m c meth b L xs D cy) {i cells slots : Nat} (hi : i + 4 ≤ L) (hc : cells + 31 ≤ 601024) (hs : slots + 260 ≤ 7293034) (nx : lwG p l e s m below meth c b D cy a0 a1 a2 1474 i (cells + 31) (slots + 260)) : lwG p l e s m below meth c b D cy a0 a1 a2 648 i cells slots := by
  intro K ad g H locs ls hP hS hI h0 h1 h2 hl
  obtain ⟨C, M, th, w, hT, hM, hO, hAG⟩ := hI
  obtain ⟨C0, hTh, hNc, hN, hX, hbl, hL⟩ := F
  have hx := C0.1; have hb := C0.2.1
  have hbA : ¬ s.heap.size ≤ b := Nat.not_le.mpr hbl
  rw [← h0, ← h1, ← h2] at hl
  obtain ⟨fs1, hfs1⟩ := hT.rc
  obtain ⟨v, C2, M2, hAG2, hW, hMM⟩ := op_clearBuffer l hAG
  refine lv_aload_n hx hb dL_law_648 rfl (lv_at hl 1 rfl) ?_
  refine z_Vi_mo (As := []) (rest := []) C0 hP hS hl.1 (hW _ hT) lk_L_114 hT.n0 hfs1 rfl rfl (Nat.le_of_ble_eq_true rfl) ⟨(Nat.le_of_ble_eq_true rfl), (Nat.le_of_ble_eq_true rfl)⟩ rfl rfl ⟨(show cells ≤ 601024 by omega), (show slots ≤ 7293034 by omega)⟩ dL_law_649 (fun r g1 H locs hP hS hp => ?_)
  obtain ⟨hr, hT2, hF⟩ := hp
  subst hr
  have hM := hM.kept hF (fun z q1 q2 => by unfold zCl; omega)
  have hO2 := hO.kept hF (by unfold zCl; omega)
  obtain ⟨fs2, hfs2⟩ := hM.rc
  refine lv_aload_n hx hb dL_law_652 rfl (lv_at hl 2 rfl) ?_
  refine z_Vi_mo (As := []) (rest := [.int r]) C0 hP hS hl.1 (hMM _ hM) lk_L_117 hM.n0 hfs2 rfl rfl (Nat.le_of_ble_eq_true rfl) ⟨(Nat.le_of_ble_eq_true rfl), (Nat.le_of_ble_eq_true rfl)⟩ rfl rfl ⟨(show cells ≤ 601024 by omega), (show slots ≤ 7293034 by omega)⟩ dL_law_653 (fun r2 g2 H locs hP hS hp => ?_)
  obtain ⟨hr2, hM2, hF2⟩ := hp
  subst hr2
  refine lv_icmp_eq (tgt := 1474) hx hb dL_law_656 (by decide) (fun _ => ?_) (fun q => absurd rfl q)
  refine W.widen (k := cells + 31) (n := slots + 260) (by omega) (by omega) ?_
  have hl := lv_sub hl (l' := [(0, .ref b), (1, .ref (ad 0)), (2, .ref (ad 221)), (3, .ref (ad 230)), (4, .int (nI i))]) [0, 1, 2, 3, 4] rfl
  rw [h0, h1, h2] at hl
  exact nx _ _ _ _ _ _ hP hS ⟨C2, M2, _, _, hT2.kept hF2 (fun z q1 q2 => by unfold zCl at q1; dsimp only [zRg] at q2; omega), hM2, hO2.kept hF2 (by dsimp only [zRg]; omega), hAG2⟩ h0 h1 h2 hl
set_option maxHeartbeats 1000000 in
theorem lc_firstError (hfl : l.stackTraces = false) (F : lwF p s m c meth b L xs D cy) {i cells slots : Nat} (hi : i + 4 ≤ L) (hc : cells + 31 ≤ 601024) (hs : slots + 260 ≤ 7293034) (nx : lwG p l e s m below meth c b D cy a0 a1 a2 1474 i (cells + 31) (slots + 260)) : lwG p l e s m below meth c b D cy a0 a1 a2 661 i cells slots := by
  intro K ad g H locs ls hP hS hI h0 h1 h2 hl
  obtain ⟨C, M, th, w, hT, hM, hO, hAG⟩ := hI
  obtain ⟨C0, hTh, hNc, hN, hX, hbl, hL⟩ := F
  have hx := C0.1; have hb := C0.2.1
  have hbA : ¬ s.heap.size ≤ b := Nat.not_le.mpr hbl
  rw [← h0, ← h1, ← h2] at hl
  obtain ⟨fs1, hfs1⟩ := hT.rc
  obtain ⟨v, C2, M2, hAG2, hW, hMM⟩ := op_firstError l hAG
  refine lv_aload_n hx hb dL_law_661 rfl (lv_at hl 1 rfl) ?_
  refine z_Vi_mo (As := []) (rest := []) C0 hP hS hl.1 (hW _ hT) lk_L_118 hT.n0 hfs1 rfl rfl (Nat.le_of_ble_eq_true rfl) ⟨(Nat.le_of_ble_eq_true rfl), (Nat.le_of_ble_eq_true rfl)⟩ rfl rfl ⟨(show cells ≤ 601024 by omega), (show slots ≤ 7293034 by omega)⟩ dL_law_662 (fun r g1 H locs hP hS hp => ?_)
  obtain ⟨hr, hT2, hF⟩ := hp
  subst hr
  have hM := hM.kept hF (fun z q1 q2 => by unfold zCl; omega)
  have hO2 := hO.kept hF (by unfold zCl; omega)
  obtain ⟨fs2, hfs2⟩ := hM.rc
  refine lv_aload_n hx hb dL_law_665 rfl (lv_at hl 2 rfl) ?_
  refine z_Vi_mo (As := []) (rest := [.int r]) C0 hP hS hl.1 (hMM _ hM) lk_L_121 hM.n0 hfs2 rfl rfl (Nat.le_of_ble_eq_true rfl) ⟨(Nat.le_of_ble_eq_true rfl), (Nat.le_of_ble_eq_true rfl)⟩ rfl rfl ⟨(show cells ≤ 601024 by omega), (show slots ≤ 7293034 by omega)⟩ dL_law_666 (fun r2 g2 H locs hP hS hp => ?_)
  obtain ⟨hr2, hM2, hF2⟩ := hp
  subst hr2
  refine lv_icmp_eq (tgt := 1474) hx hb dL_law_669 (by decide) (fun _ => ?_) (fun q => absurd rfl q)
  refine W.widen (k := cells + 31) (n := slots + 260) (by omega) (by omega) ?_
  have hl := lv_sub hl (l' := [(0, .ref b), (1, .ref (ad 0)), (2, .ref (ad 221)), (3, .ref (ad 230)), (4, .int (nI i))]) [0, 1, 2, 3, 4] rfl
  rw [h0, h1, h2] at hl
  exact nx _ _ _ _ _ _ hP hS ⟨C2, M2, _, _, hT2.kept hF2 (fun z q1 q2 => by unfold zCl at q1; dsimp only [zRg] at q2; omega), hM2, hO2.kept hF2 (by dsimp only [zRg]; omega), hAG2⟩ h0 h1 h2 hl
set_option maxHeartbeats 1000000 in
theorem lc_run (hfl : l.stackTraces = false) (F : lwF p s m c meth b L xs D cy) {i cells slots : Nat} (hi : i + 4 ≤ L) (hc : cells + 31 ≤ 601024) (hs : slots + 260 ≤ 7293034) (nx : lwG p l e s m below meth c b D cy a0 a1 a2 1474 i (cells + 31) (slots + 260)) : lwG p l e s m below meth c b D cy a0 a1 a2 674 i cells slots := by
  intro K ad g H locs ls hP hS hI h0 h1 h2 hl
  obtain ⟨C, M, th, w, hT, hM, hO, hAG⟩ := hI
  obtain ⟨C0, hTh, hNc, hN, hX, hbl, hL⟩ := F
  have hx := C0.1; have hb := C0.2.1
  have hbA : ¬ s.heap.size ≤ b := Nat.not_le.mpr hbl
  rw [← h0, ← h1, ← h2] at hl
  obtain ⟨fs1, hfs1⟩ := hT.rc
  obtain ⟨k, v, C2, M2, hk3, hAG2, hW, rm, ⟨r1, r2, r3, r4⟩, hMM⟩ := op_run l hfl hAG 
  refine lv_aload_n hx hb dL_law_674 rfl (lv_at hl 1 rfl) ?_
  refine lv_aload_n hx hb dL_law_675 rfl (lv_at hl 3 rfl) ?_
  refine z_calli C0 hP hS (z_runSW (As := [.ref (ad 0), .ref (ad 230)]) (rest := []) C0 hTh hNc hP hS hl.1 (hW _ hT hO) lh_run rfl rfl (Nat.le_of_ble_eq_true rfl) rfl rfl ⟨(Nat.le_of_ble_eq_true rfl), (Nat.le_of_ble_eq_true rfl)⟩ ⟨(show cells + 1 ≤ 601024 by omega), (show slots + 6 ≤ 7293034 by omega)⟩ dL_law_676) (fun r g1 H locs hP hS hp => ?_)
  obtain ⟨hr, hT2, ⟨w2, hO2, hw⟩, hF⟩ := hp
  subst hr
  have hM := hM.kept hF (fun z q1 q2 => by unfold zClO zCl; omega)
  refine lv_istore (lv' := [(5, .int (nI k)), (0, .ref b), (1, .ref (ad 0)), (2, .ref (ad 221)), (3, .ref (ad 230)), (4, .int (nI i))]) hx hb dL_law_679 hl (by decide) rfl (fun ls hl => ?_)
  obtain ⟨fs2, hfs2⟩ := hM.rc
  refine lv_aload_n hx hb dL_law_681 rfl (lv_at hl 3 rfl) ?_
  refine z_Vi_mo (As := []) (rest := []) C0 hP hS hl.1 (hMM _ hM) lk_L_125 hM.n0 hfs2 rfl rfl (Nat.le_of_ble_eq_true rfl) ⟨(show rm.frames + 1 ≤ 2048 by omega), (show 8 + (_ + 11) + rm.locals ≤ 84000 by omega)⟩ r1 r2 ⟨(show cells + 1 ≤ 601024 by omega), (show slots + 6 ≤ 7293034 by omega)⟩ dL_law_682 (fun r g2 H locs hP hS hp => ?_)
  obtain ⟨hr, hM2, hF2⟩ := hp
  refine lv_istore (lv' := [(6, .int r), (5, .int (nI k)), (0, .ref b), (1, .ref (ad 0)), (2, .ref (ad 221)), (3, .ref (ad 230)), (4, .int (nI i))]) hx hb dL_law_685 hl (by decide) rfl (fun ls hl => ?_)
  refine lv_aload_n hx hb dL_law_687 rfl (lv_at hl 4 rfl) ?_
  obtain ⟨az, kn, lo, dg, hM3⟩ := hM2
  refine z_Vi_eq (As := []) (rest := []) C0 hP hS hl.1 (m_X5_thrown l _ hM3) lk_L_89 hM3.n0 hM3.o rfl rfl (Nat.le_of_ble_eq_true rfl) ⟨(Nat.le_of_ble_eq_true rfl), (Nat.le_of_ble_eq_true rfl)⟩ rfl rfl ⟨(show cells + 1 ≤ 601024 by omega), (show slots + 6 ≤ 7293034 by omega)⟩ dL_law_688 (fun H locs hP hS => ?_)
  refine lv_iload hx hb dL_law_691 (lv_at hl 1 rfl) ?_
  refine lv_icmp_eq (tgt := 698) hx hb dL_law_693 (by decide) (fun _ => ?_) (fun q => absurd rfl q)
  refine lv_iload hx hb dL_law_698 (lv_at hl 1 rfl) ?_
  refine lv_if_ne (tgt := 715) hx hb dL_law_700 (by decide) (fun _ => ?_) (fun hk0 => ?_)
  · refine lv_goto (tgt := 1474) hx hb dL_law_715 (by decide) ?_
    refine W.widen (k := cells + 31) (n := slots + 260) (by omega) (by omega) ?_
    have hl := lv_sub hl (l' := [(0, .ref b), (1, .ref (ad 0)), (2, .ref (ad 221)), (3, .ref (ad 230)), (4, .int (nI i))]) [2, 3, 4, 5, 6] rfl
    rw [h0, h1, h2] at hl
    exact nx _ _ _ _ _ _ hP hS ⟨C2, M2, _, _, hT2.kept hF2 (fun z q1 q2 => by unfold zCl at q1; dsimp only [zRg] at q2; omega), ⟨az, kn, lo, dg, hM3⟩, hO2.kept hF2 (by dsimp only [zRg]; omega), hAG2⟩ h0 h1 h2 hl
  · have hk : k = 0 := (nI_eq (by omega) (by decide)).mp (hk0.trans nI_0.symm)
    have hrv := hr hk
    have hwv := hw hk
    have hO3 := hO2.kept hF2 (by dsimp only [zRg]; omega)
    obtain ⟨hO4, f, hO5, hO6⟩ := id hO3
    refine lv_aload_n hx hb dL_law_703 rfl (lv_at hl 5 rfl) ?_
    refine lv_iconst (v := 0) hx hb dL_law_704 (by decide) ?_
    refine z_lald C0 hP hO4 hO5 (zIx_of nI_0.symm (by decide) (by decide)) dL_law_705 ?_
    refine lv_iload hx hb dL_law_706 (lv_at hl 0 rfl) ?_
    refine lv_i2l (v := Int32.toInt64 r) hx hb dL_law_708 rfl ?_
    refine W.lcmp hx hb dL_law_709 ?_
    refine lv_if_eq (tgt := 715) hx hb dL_law_710 (by decide) (fun _ => ?_) (fun q => absurd ((lg_cmp_eq _ _).mpr (hO6.trans (hwv.trans (congrArg Int32.toInt64 hrv.symm)))) q)
    refine lv_goto (tgt := 1474) hx hb dL_law_715 (by decide) ?_
    refine W.widen (k := cells + 31) (n := slots + 260) (by omega) (by omega) ?_
    have hl := lv_sub hl (l' := [(0, .ref b), (1, .ref (ad 0)), (2, .ref (ad 221)), (3, .ref (ad 230)), (4, .int (nI i))]) [2, 3, 4, 5, 6] rfl
    rw [h0, h1, h2] at hl
    exact nx _ _ _ _ _ _ hP hS ⟨C2, M2, _, _, hT2.kept hF2 (fun z q1 q2 => by unfold zCl at q1; dsimp only [zRg] at q2; omega), ⟨az, kn, lo, dg, hM3⟩, hO2.kept hF2 (by dsimp only [zRg]; omega), hAG2⟩ h0 h1 h2 hl
set_option maxHeartbeats 1000000 in
theorem lc_keep (hfl : l.stackTraces = false) (F : lwF p s m c meth b L xs D cy) {i cells slots : Nat} (hi : i + 4 ≤ L) (hc : cells + 31 ≤ 601024) (hs : slots + 260 ≤ 7293034) (nx : lwG p l e s m below meth c b D cy a0 a1 a2 1474 i (cells + 31) (slots + 260)) : lwG p l e s m below meth c b D cy a0 a1 a2 718 i cells slots := by
  intro K ad g H locs ls hP hS hI h0 h1 h2 hl
  obtain ⟨C, M, th, w, hT, hM, hO, hAG⟩ := hI
  obtain ⟨C0, hTh, hNc, hN, hX, hbl, hL⟩ := F
  have hx := C0.1; have hb := C0.2.1
  have hbA : ¬ s.heap.size ≤ b := Nat.not_le.mpr hbl
  rw [← h0, ← h1, ← h2] at hl
  obtain ⟨fs1, hfs1⟩ := hT.rc
  by_cases hkn : ∃ jz, jz < 2 ∧ xs (nI (i + 1)).toNatClampNeg = nI jz ∧ C.2.2.2.2.1 jz = none
  · obtain ⟨jz, hj, hx1, hns⟩ := hkn
    have hK := hO.1
    obtain ⟨v, C2, M2, hAG2, hW, hMM⟩ := op_keepN l hAG hj hns (K := K) (by omega)
    rw [← hx1] at hW hMM
    refine lv_aload_n hx hb dL_law_718 rfl (lv_at hl 1 rfl) ?_
    refine lv_aload_n hx hb dL_law_719 rfl (lv_at hl 0 rfl) ?_
    refine lv_iload hx hb dL_law_720 (lv_at hl 4 rfl) ?_
    refine lv_iconst (v := 1) hx hb dL_law_722 (by decide) ?_
    refine lv_iadd hx hb dL_law_723 ?_
    refine z_topi (y := nI (i + 1)) (nI_add i 1) ?_
    refine va_sld hx hb hX hbl hbA hS (vp_in_nI (by omega) (by omega)) dL_law_724 ?_
    refine lv_aload_n hx hb dL_law_725 rfl (lv_at hl 3 rfl) ?_
    refine z_calliN C0 hP hS (z_runSWN (As := [.ref (ad 0), .int (xs (nI (i + 1)).toNatClampNeg), .ref (ad 230)]) (rest := []) C0 hN hP hl.1 (hW _ hT hO) lh_keep rfl rfl (Nat.le_of_ble_eq_true rfl) rfl rfl ⟨(Nat.le_of_ble_eq_true rfl), (Nat.le_of_ble_eq_true rfl)⟩ ⟨(show cells + 30 ≤ 601024 by omega), (show slots + 252 ≤ 7293034 by omega)⟩ dL_law_726) (fun r K1 ad1 g1 H locs hP hS hp => ?_)
    obtain ⟨hr, hK1, hA1, hG1, hT2, hO2⟩ := hp
    dsimp only at hK1 hA1 hG1 hT2 hO2
    subst hr
    subst hK1
    have hM := hM.gr (K1 := K + 30) (by omega) hA1 (fun x q1 q2 => hG1 x (by omega) (by unfold zClO zCl; omega))
    rw [← hA1 0 (by omega), ← hA1 221 (by omega), ← hA1 230 (by omega)] at hl
    have h0 := (hA1 0 (by omega)).trans h0
    have h1 := (hA1 221 (by omega)).trans h1
    have h2 := (hA1 230 (by omega)).trans h2
    refine lv_istore (lv' := [(5, .int 0), (0, .ref b), (1, .ref (ad1 0)), (2, .ref (ad1 221)), (3, .ref (ad1 230)), (4, .int (nI i))]) hx hb dL_law_729 hl (by decide) rfl (fun ls hl => ?_)
    obtain ⟨fs2, hfs2⟩ := hM.rc
    refine lv_aload_n hx hb dL_law_731 rfl (lv_at hl 3 rfl) ?_
    refine lv_aload_n hx hb dL_law_732 rfl (lv_at hl 1 rfl) ?_
    refine lv_iload hx hb dL_law_733 (lv_at hl 5 rfl) ?_
    refine lv_iconst (v := 1) hx hb dL_law_735 (by decide) ?_
    refine lv_iadd hx hb dL_law_736 ?_
    refine z_topi (y := nI (i + 1)) (nI_add i 1) ?_
    refine va_sld hx hb hX hbl hbA hS (vp_in_nI (by omega) (by omega)) dL_law_737 ?_
    refine z_Vi_mo (As := [.int (xs (nI (i + 1)).toNatClampNeg)]) (rest := []) C0 hP hS hl.1 (hMM _ hM) lk_L_128 hM.n0 hfs2 rfl rfl (Nat.le_of_ble_eq_true rfl) ⟨(Nat.le_of_ble_eq_true rfl), (Nat.le_of_ble_eq_true rfl)⟩ rfl rfl ⟨(show cells + 30 ≤ 601024 by omega), (show slots + 252 ≤ 7293034 by omega)⟩ dL_law_738 (fun r g2 H locs hP hS hp => ?_)
    obtain ⟨hr, hM2, hF2⟩ := hp
    subst hr
    refine lv_istore (lv' := [(6, .int r), (5, .int 0), (0, .ref b), (1, .ref (ad1 0)), (2, .ref (ad1 221)), (3, .ref (ad1 230)), (4, .int (nI i))]) hx hb dL_law_741 hl (by decide) rfl (fun ls hl => ?_)
    refine lv_aload_n hx hb dL_law_743 rfl (lv_at hl 4 rfl) ?_
    obtain ⟨az, kn, lo, dg, hM3⟩ := hM2
    refine z_Vi_eq (As := []) (rest := []) C0 hP hS hl.1 (m_X5_thrown l _ hM3) lk_L_89 hM3.n0 hM3.o rfl rfl (Nat.le_of_ble_eq_true rfl) ⟨(Nat.le_of_ble_eq_true rfl), (Nat.le_of_ble_eq_true rfl)⟩ rfl rfl ⟨(show cells + 30 ≤ 601024 by omega), (show slots + 252 ≤ 7293034 by omega)⟩ dL_law_744 (fun H locs hP hS => ?_)
    refine lv_iload hx hb dL_law_747 (lv_at hl 1 rfl) ?_
    refine lv_icmp_eq (tgt := 754) hx hb dL_law_749 (by decide) (fun _ => ?_) (fun q => absurd rfl q)
    refine lv_iload hx hb dL_law_754 (lv_at hl 1 rfl) ?_
    refine lv_if_ne (tgt := 771) hx hb dL_law_756 (by decide) (fun q => absurd rfl q) (fun _ => ?_)
    have hO3 := hO2.kept hF2 (by dsimp only [zRg]; omega)
    obtain ⟨hO4, f, hO5, hO6⟩ := id hO3
    refine lv_aload_n hx hb dL_law_759 rfl (lv_at hl 5 rfl) ?_
    refine lv_iconst (v := 0) hx hb dL_law_760 (by decide) ?_
    refine z_lald C0 hP hO4 hO5 (zIx_of nI_0.symm (by decide) (by decide)) dL_law_761 ?_
    refine lv_iload hx hb dL_law_762 (lv_at hl 0 rfl) ?_
    refine lv_i2l (v := Int32.toInt64 r) hx hb dL_law_764 rfl ?_
    refine W.lcmp hx hb dL_law_765 ?_
    refine lv_if_eq (tgt := 771) hx hb dL_law_766 (by decide) (fun _ => ?_) (fun q => absurd ((lg_cmp_eq _ _).mpr (hO6)) q)
    refine lv_goto (tgt := 1474) hx hb dL_law_771 (by decide) ?_
    refine W.widen (k := cells + 31) (n := slots + 260) (by omega) (by omega) ?_
    have hl := lv_sub hl (l' := [(0, .ref b), (1, .ref (ad1 0)), (2, .ref (ad1 221)), (3, .ref (ad1 230)), (4, .int (nI i))]) [2, 3, 4, 5, 6] rfl
    rw [h0, h1, h2] at hl
    exact nx _ _ _ _ _ _ hP hS ⟨C2, M2, _, _, hT2.kept hF2 (fun z q1 q2 => by unfold zCl at q1; dsimp only [zRg] at q2; omega), ⟨az, kn, lo, dg, hM3⟩, hO2.kept hF2 (by dsimp only [zRg]; omega), hAG2⟩ h0 h1 h2 hl
  · obtain ⟨k, v, C2, M2, hk3, hAG2, hW, rm, ⟨r1, r2, r3, r4⟩, hMM⟩ := op_keep l hfl hAG (xs (nI (i + 1)).toNatClampNeg) (fun jz q1 q2 q3 => hkn ⟨jz, q1, q2, q3⟩)
    refine lv_aload_n hx hb dL_law_718 rfl (lv_at hl 1 rfl) ?_
    refine lv_aload_n hx hb dL_law_719 rfl (lv_at hl 0 rfl) ?_
    refine lv_iload hx hb dL_law_720 (lv_at hl 4 rfl) ?_
    refine lv_iconst (v := 1) hx hb dL_law_722 (by decide) ?_
    refine lv_iadd hx hb dL_law_723 ?_
    refine z_topi (y := nI (i + 1)) (nI_add i 1) ?_
    refine va_sld hx hb hX hbl hbA hS (vp_in_nI (by omega) (by omega)) dL_law_724 ?_
    refine lv_aload_n hx hb dL_law_725 rfl (lv_at hl 3 rfl) ?_
    refine z_calli C0 hP hS (z_runSW (As := [.ref (ad 0), .int (xs (nI (i + 1)).toNatClampNeg), .ref (ad 230)]) (rest := []) C0 hTh hNc hP hS hl.1 (hW _ hT hO) lh_keep rfl rfl (Nat.le_of_ble_eq_true rfl) rfl rfl ⟨(Nat.le_of_ble_eq_true rfl), (Nat.le_of_ble_eq_true rfl)⟩ ⟨(show cells + 1 ≤ 601024 by omega), (show slots + 6 ≤ 7293034 by omega)⟩ dL_law_726) (fun r g1 H locs hP hS hp => ?_)
    obtain ⟨hr, hT2, ⟨w2, hO2, hw⟩, hF⟩ := hp
    subst hr
    have hM := hM.kept hF (fun z q1 q2 => by unfold zClO zCl; omega)
    refine lv_istore (lv' := [(5, .int (nI k)), (0, .ref b), (1, .ref (ad 0)), (2, .ref (ad 221)), (3, .ref (ad 230)), (4, .int (nI i))]) hx hb dL_law_729 hl (by decide) rfl (fun ls hl => ?_)
    obtain ⟨fs2, hfs2⟩ := hM.rc
    refine lv_aload_n hx hb dL_law_731 rfl (lv_at hl 3 rfl) ?_
    refine lv_aload_n hx hb dL_law_732 rfl (lv_at hl 1 rfl) ?_
    refine lv_iload hx hb dL_law_733 (lv_at hl 5 rfl) ?_
    refine lv_iconst (v := 1) hx hb dL_law_735 (by decide) ?_
    refine lv_iadd hx hb dL_law_736 ?_
    refine z_topi (y := nI (i + 1)) (nI_add i 1) ?_
    refine va_sld hx hb hX hbl hbA hS (vp_in_nI (by omega) (by omega)) dL_law_737 ?_
    refine z_Vi_mo (As := [.int (xs (nI (i + 1)).toNatClampNeg)]) (rest := []) C0 hP hS hl.1 (hMM _ hM) lk_L_128 hM.n0 hfs2 rfl rfl (Nat.le_of_ble_eq_true rfl) ⟨(show rm.frames + 1 ≤ 2048 by omega), (show 8 + (_ + 11) + rm.locals ≤ 84000 by omega)⟩ r1 r2 ⟨(show cells + 1 ≤ 601024 by omega), (show slots + 6 ≤ 7293034 by omega)⟩ dL_law_738 (fun r g2 H locs hP hS hp => ?_)
    obtain ⟨hr, hM2, hF2⟩ := hp
    refine lv_istore (lv' := [(6, .int r), (5, .int (nI k)), (0, .ref b), (1, .ref (ad 0)), (2, .ref (ad 221)), (3, .ref (ad 230)), (4, .int (nI i))]) hx hb dL_law_741 hl (by decide) rfl (fun ls hl => ?_)
    refine lv_aload_n hx hb dL_law_743 rfl (lv_at hl 4 rfl) ?_
    obtain ⟨az, kn, lo, dg, hM3⟩ := hM2
    refine z_Vi_eq (As := []) (rest := []) C0 hP hS hl.1 (m_X5_thrown l _ hM3) lk_L_89 hM3.n0 hM3.o rfl rfl (Nat.le_of_ble_eq_true rfl) ⟨(Nat.le_of_ble_eq_true rfl), (Nat.le_of_ble_eq_true rfl)⟩ rfl rfl ⟨(show cells + 1 ≤ 601024 by omega), (show slots + 6 ≤ 7293034 by omega)⟩ dL_law_744 (fun H locs hP hS => ?_)
    refine lv_iload hx hb dL_law_747 (lv_at hl 1 rfl) ?_
    refine lv_icmp_eq (tgt := 754) hx hb dL_law_749 (by decide) (fun _ => ?_) (fun q => absurd rfl q)
    refine lv_iload hx hb dL_law_754 (lv_at hl 1 rfl) ?_
    refine lv_if_ne (tgt := 771) hx hb dL_law_756 (by decide) (fun _ => ?_) (fun hk0 => ?_)
    · refine lv_goto (tgt := 1474) hx hb dL_law_771 (by decide) ?_
      refine W.widen (k := cells + 31) (n := slots + 260) (by omega) (by omega) ?_
      have hl := lv_sub hl (l' := [(0, .ref b), (1, .ref (ad 0)), (2, .ref (ad 221)), (3, .ref (ad 230)), (4, .int (nI i))]) [2, 3, 4, 5, 6] rfl
      rw [h0, h1, h2] at hl
      exact nx _ _ _ _ _ _ hP hS ⟨C2, M2, _, _, hT2.kept hF2 (fun z q1 q2 => by unfold zCl at q1; dsimp only [zRg] at q2; omega), ⟨az, kn, lo, dg, hM3⟩, hO2.kept hF2 (by dsimp only [zRg]; omega), hAG2⟩ h0 h1 h2 hl
    · have hk : k = 0 := (nI_eq (by omega) (by decide)).mp (hk0.trans nI_0.symm)
      have hrv := hr hk
      have hwv := hw hk
      have hO3 := hO2.kept hF2 (by dsimp only [zRg]; omega)
      obtain ⟨hO4, f, hO5, hO6⟩ := id hO3
      refine lv_aload_n hx hb dL_law_759 rfl (lv_at hl 5 rfl) ?_
      refine lv_iconst (v := 0) hx hb dL_law_760 (by decide) ?_
      refine z_lald C0 hP hO4 hO5 (zIx_of nI_0.symm (by decide) (by decide)) dL_law_761 ?_
      refine lv_iload hx hb dL_law_762 (lv_at hl 0 rfl) ?_
      refine lv_i2l (v := Int32.toInt64 r) hx hb dL_law_764 rfl ?_
      refine W.lcmp hx hb dL_law_765 ?_
      refine lv_if_eq (tgt := 771) hx hb dL_law_766 (by decide) (fun _ => ?_) (fun q => absurd ((lg_cmp_eq _ _).mpr (hO6.trans (hwv.trans (congrArg Int32.toInt64 hrv.symm)))) q)
      refine lv_goto (tgt := 1474) hx hb dL_law_771 (by decide) ?_
      refine W.widen (k := cells + 31) (n := slots + 260) (by omega) (by omega) ?_
      have hl := lv_sub hl (l' := [(0, .ref b), (1, .ref (ad 0)), (2, .ref (ad 221)), (3, .ref (ad 230)), (4, .int (nI i))]) [2, 3, 4, 5, 6] rfl
      rw [h0, h1, h2] at hl
      exact nx _ _ _ _ _ _ hP hS ⟨C2, M2, _, _, hT2.kept hF2 (fun z q1 q2 => by unfold zCl at q1; dsimp only [zRg] at q2; omega), ⟨az, kn, lo, dg, hM3⟩, hO2.kept hF2 (by dsimp only [zRg]; omega), hAG2⟩ h0 h1 h2 hl
set_option maxHeartbeats 1000000 in
theorem lc_goBack (hfl : l.stackTraces = false) (F : lwF p s m c meth b L xs D cy) {i cells slots : Nat} (hi : i + 4 ≤ L) (hc : cells + 31 ≤ 601024) (hs : slots + 260 ≤ 7293034) (nx : lwG p l e s m below meth c b D cy a0 a1 a2 1474 i (cells + 31) (slots + 260)) : lwG p l e s m below meth c b D cy a0 a1 a2 774 i cells slots := by
  intro K ad g H locs ls hP hS hI h0 h1 h2 hl
  obtain ⟨C, M, th, w, hT, hM, hO, hAG⟩ := hI
  obtain ⟨C0, hTh, hNc, hN, hX, hbl, hL⟩ := F
  have hx := C0.1; have hb := C0.2.1
  have hbA : ¬ s.heap.size ≤ b := Nat.not_le.mpr hbl
  rw [← h0, ← h1, ← h2] at hl
  obtain ⟨fs1, hfs1⟩ := hT.rc
  obtain ⟨k, v, C2, M2, hk3, hAG2, hW, rm, ⟨r1, r2, r3, r4⟩, hMM⟩ := op_goBack l hfl hAG (xs (nI (i + 1)).toNatClampNeg)
  refine lv_aload_n hx hb dL_law_774 rfl (lv_at hl 1 rfl) ?_
  refine lv_aload_n hx hb dL_law_775 rfl (lv_at hl 0 rfl) ?_
  refine lv_iload hx hb dL_law_776 (lv_at hl 4 rfl) ?_
  refine lv_iconst (v := 1) hx hb dL_law_778 (by decide) ?_
  refine lv_iadd hx hb dL_law_779 ?_
  refine z_topi (y := nI (i + 1)) (nI_add i 1) ?_
  refine va_sld hx hb hX hbl hbA hS (vp_in_nI (by omega) (by omega)) dL_law_780 ?_
  refine lv_aload_n hx hb dL_law_781 rfl (lv_at hl 3 rfl) ?_
  refine z_calli C0 hP hS (z_runSW (As := [.ref (ad 0), .int (xs (nI (i + 1)).toNatClampNeg), .ref (ad 230)]) (rest := []) C0 hTh hNc hP hS hl.1 (hW _ hT hO) lh_goBack rfl rfl (Nat.le_of_ble_eq_true rfl) rfl rfl ⟨(Nat.le_of_ble_eq_true rfl), (Nat.le_of_ble_eq_true rfl)⟩ ⟨(show cells + 1 ≤ 601024 by omega), (show slots + 6 ≤ 7293034 by omega)⟩ dL_law_782) (fun r g1 H locs hP hS hp => ?_)
  obtain ⟨hr, hT2, ⟨w2, hO2, hw⟩, hF⟩ := hp
  subst hr
  have hM := hM.kept hF (fun z q1 q2 => by unfold zClO zCl; omega)
  refine lv_istore (lv' := [(5, .int (nI k)), (0, .ref b), (1, .ref (ad 0)), (2, .ref (ad 221)), (3, .ref (ad 230)), (4, .int (nI i))]) hx hb dL_law_785 hl (by decide) rfl (fun ls hl => ?_)
  obtain ⟨fs2, hfs2⟩ := hM.rc
  refine lv_aload_n hx hb dL_law_787 rfl (lv_at hl 3 rfl) ?_
  refine lv_aload_n hx hb dL_law_788 rfl (lv_at hl 1 rfl) ?_
  refine lv_iload hx hb dL_law_789 (lv_at hl 5 rfl) ?_
  refine lv_iconst (v := 1) hx hb dL_law_791 (by decide) ?_
  refine lv_iadd hx hb dL_law_792 ?_
  refine z_topi (y := nI (i + 1)) (nI_add i 1) ?_
  refine va_sld hx hb hX hbl hbA hS (vp_in_nI (by omega) (by omega)) dL_law_793 ?_
  refine z_Vi_mo (As := [.int (xs (nI (i + 1)).toNatClampNeg)]) (rest := []) C0 hP hS hl.1 (hMM _ hM) lk_L_131 hM.n0 hfs2 rfl rfl (Nat.le_of_ble_eq_true rfl) ⟨(show rm.frames + 1 ≤ 2048 by omega), (show 8 + (_ + 11) + rm.locals ≤ 84000 by omega)⟩ r1 r2 ⟨(show cells + 1 ≤ 601024 by omega), (show slots + 6 ≤ 7293034 by omega)⟩ dL_law_794 (fun r g2 H locs hP hS hp => ?_)
  obtain ⟨hr, hM2, hF2⟩ := hp
  refine lv_istore (lv' := [(6, .int r), (5, .int (nI k)), (0, .ref b), (1, .ref (ad 0)), (2, .ref (ad 221)), (3, .ref (ad 230)), (4, .int (nI i))]) hx hb dL_law_797 hl (by decide) rfl (fun ls hl => ?_)
  refine lv_aload_n hx hb dL_law_799 rfl (lv_at hl 4 rfl) ?_
  obtain ⟨az, kn, lo, dg, hM3⟩ := hM2
  refine z_Vi_eq (As := []) (rest := []) C0 hP hS hl.1 (m_X5_thrown l _ hM3) lk_L_89 hM3.n0 hM3.o rfl rfl (Nat.le_of_ble_eq_true rfl) ⟨(Nat.le_of_ble_eq_true rfl), (Nat.le_of_ble_eq_true rfl)⟩ rfl rfl ⟨(show cells + 1 ≤ 601024 by omega), (show slots + 6 ≤ 7293034 by omega)⟩ dL_law_800 (fun H locs hP hS => ?_)
  refine lv_iload hx hb dL_law_803 (lv_at hl 1 rfl) ?_
  refine lv_icmp_eq (tgt := 810) hx hb dL_law_805 (by decide) (fun _ => ?_) (fun q => absurd rfl q)
  refine lv_iload hx hb dL_law_810 (lv_at hl 1 rfl) ?_
  refine lv_if_ne (tgt := 827) hx hb dL_law_812 (by decide) (fun _ => ?_) (fun hk0 => ?_)
  · refine lv_goto (tgt := 1474) hx hb dL_law_827 (by decide) ?_
    refine W.widen (k := cells + 31) (n := slots + 260) (by omega) (by omega) ?_
    have hl := lv_sub hl (l' := [(0, .ref b), (1, .ref (ad 0)), (2, .ref (ad 221)), (3, .ref (ad 230)), (4, .int (nI i))]) [2, 3, 4, 5, 6] rfl
    rw [h0, h1, h2] at hl
    exact nx _ _ _ _ _ _ hP hS ⟨C2, M2, _, _, hT2.kept hF2 (fun z q1 q2 => by unfold zCl at q1; dsimp only [zRg] at q2; omega), ⟨az, kn, lo, dg, hM3⟩, hO2.kept hF2 (by dsimp only [zRg]; omega), hAG2⟩ h0 h1 h2 hl
  · have hk : k = 0 := (nI_eq (by omega) (by decide)).mp (hk0.trans nI_0.symm)
    have hrv := hr hk
    have hwv := hw hk
    have hO3 := hO2.kept hF2 (by dsimp only [zRg]; omega)
    obtain ⟨hO4, f, hO5, hO6⟩ := id hO3
    refine lv_aload_n hx hb dL_law_815 rfl (lv_at hl 5 rfl) ?_
    refine lv_iconst (v := 0) hx hb dL_law_816 (by decide) ?_
    refine z_lald C0 hP hO4 hO5 (zIx_of nI_0.symm (by decide) (by decide)) dL_law_817 ?_
    refine lv_iload hx hb dL_law_818 (lv_at hl 0 rfl) ?_
    refine lv_i2l (v := Int32.toInt64 r) hx hb dL_law_820 rfl ?_
    refine W.lcmp hx hb dL_law_821 ?_
    refine lv_if_eq (tgt := 827) hx hb dL_law_822 (by decide) (fun _ => ?_) (fun q => absurd ((lg_cmp_eq _ _).mpr (hO6.trans (hwv.trans (congrArg Int32.toInt64 hrv.symm)))) q)
    refine lv_goto (tgt := 1474) hx hb dL_law_827 (by decide) ?_
    refine W.widen (k := cells + 31) (n := slots + 260) (by omega) (by omega) ?_
    have hl := lv_sub hl (l' := [(0, .ref b), (1, .ref (ad 0)), (2, .ref (ad 221)), (3, .ref (ad 230)), (4, .int (nI i))]) [2, 3, 4, 5, 6] rfl
    rw [h0, h1, h2] at hl
    exact nx _ _ _ _ _ _ hP hS ⟨C2, M2, _, _, hT2.kept hF2 (fun z q1 q2 => by unfold zCl at q1; dsimp only [zRg] at q2; omega), ⟨az, kn, lo, dg, hM3⟩, hO2.kept hF2 (by dsimp only [zRg]; omega), hAG2⟩ h0 h1 h2 hl
set_option maxHeartbeats 1000000 in
theorem lc_undo (hfl : l.stackTraces = false) (F : lwF p s m c meth b L xs D cy) {i cells slots : Nat} (hi : i + 4 ≤ L) (hc : cells + 31 ≤ 601024) (hs : slots + 260 ≤ 7293034) (nx : lwG p l e s m below meth c b D cy a0 a1 a2 1474 i (cells + 31) (slots + 260)) : lwG p l e s m below meth c b D cy a0 a1 a2 830 i cells slots := by
  intro K ad g H locs ls hP hS hI h0 h1 h2 hl
  obtain ⟨C, M, th, w, hT, hM, hO, hAG⟩ := hI
  obtain ⟨C0, hTh, hNc, hN, hX, hbl, hL⟩ := F
  have hx := C0.1; have hb := C0.2.1
  have hbA : ¬ s.heap.size ≤ b := Nat.not_le.mpr hbl
  rw [← h0, ← h1, ← h2] at hl
  obtain ⟨fs1, hfs1⟩ := hT.rc
  obtain ⟨k, v, C2, M2, hk3, hAG2, hW, rm, ⟨r1, r2, r3, r4⟩, hMM⟩ := op_undo l hfl hAG 
  refine lv_aload_n hx hb dL_law_830 rfl (lv_at hl 1 rfl) ?_
  refine lv_aload_n hx hb dL_law_831 rfl (lv_at hl 3 rfl) ?_
  refine z_calli C0 hP hS (z_runSW (As := [.ref (ad 0), .ref (ad 230)]) (rest := []) C0 hTh hNc hP hS hl.1 (hW _ hT hO) lh_undo rfl rfl (Nat.le_of_ble_eq_true rfl) rfl rfl ⟨(Nat.le_of_ble_eq_true rfl), (Nat.le_of_ble_eq_true rfl)⟩ ⟨(show cells + 1 ≤ 601024 by omega), (show slots + 6 ≤ 7293034 by omega)⟩ dL_law_832) (fun r g1 H locs hP hS hp => ?_)
  obtain ⟨hr, hT2, ⟨w2, hO2, hw⟩, hF⟩ := hp
  subst hr
  have hM := hM.kept hF (fun z q1 q2 => by unfold zClO zCl; omega)
  refine lv_istore (lv' := [(5, .int (nI k)), (0, .ref b), (1, .ref (ad 0)), (2, .ref (ad 221)), (3, .ref (ad 230)), (4, .int (nI i))]) hx hb dL_law_835 hl (by decide) rfl (fun ls hl => ?_)
  obtain ⟨fs2, hfs2⟩ := hM.rc
  refine lv_aload_n hx hb dL_law_837 rfl (lv_at hl 3 rfl) ?_
  refine z_Vi_mo (As := []) (rest := []) C0 hP hS hl.1 (hMM _ hM) lk_L_134 hM.n0 hfs2 rfl rfl (Nat.le_of_ble_eq_true rfl) ⟨(show rm.frames + 1 ≤ 2048 by omega), (show 8 + (_ + 11) + rm.locals ≤ 84000 by omega)⟩ r1 r2 ⟨(show cells + 1 ≤ 601024 by omega), (show slots + 6 ≤ 7293034 by omega)⟩ dL_law_838 (fun r g2 H locs hP hS hp => ?_)
  obtain ⟨hr, hM2, hF2⟩ := hp
  refine lv_istore (lv' := [(6, .int r), (5, .int (nI k)), (0, .ref b), (1, .ref (ad 0)), (2, .ref (ad 221)), (3, .ref (ad 230)), (4, .int (nI i))]) hx hb dL_law_841 hl (by decide) rfl (fun ls hl => ?_)
  refine lv_aload_n hx hb dL_law_843 rfl (lv_at hl 4 rfl) ?_
  obtain ⟨az, kn, lo, dg, hM3⟩ := hM2
  refine z_Vi_eq (As := []) (rest := []) C0 hP hS hl.1 (m_X5_thrown l _ hM3) lk_L_89 hM3.n0 hM3.o rfl rfl (Nat.le_of_ble_eq_true rfl) ⟨(Nat.le_of_ble_eq_true rfl), (Nat.le_of_ble_eq_true rfl)⟩ rfl rfl ⟨(show cells + 1 ≤ 601024 by omega), (show slots + 6 ≤ 7293034 by omega)⟩ dL_law_844 (fun H locs hP hS => ?_)
  refine lv_iload hx hb dL_law_847 (lv_at hl 1 rfl) ?_
  refine lv_icmp_eq (tgt := 854) hx hb dL_law_849 (by decide) (fun _ => ?_) (fun q => absurd rfl q)
  refine lv_iload hx hb dL_law_854 (lv_at hl 1 rfl) ?_
  refine lv_if_ne (tgt := 871) hx hb dL_law_856 (by decide) (fun _ => ?_) (fun hk0 => ?_)
  · refine lv_goto (tgt := 1474) hx hb dL_law_871 (by decide) ?_
    refine W.widen (k := cells + 31) (n := slots + 260) (by omega) (by omega) ?_
    have hl := lv_sub hl (l' := [(0, .ref b), (1, .ref (ad 0)), (2, .ref (ad 221)), (3, .ref (ad 230)), (4, .int (nI i))]) [2, 3, 4, 5, 6] rfl
    rw [h0, h1, h2] at hl
    exact nx _ _ _ _ _ _ hP hS ⟨C2, M2, _, _, hT2.kept hF2 (fun z q1 q2 => by unfold zCl at q1; dsimp only [zRg] at q2; omega), ⟨az, kn, lo, dg, hM3⟩, hO2.kept hF2 (by dsimp only [zRg]; omega), hAG2⟩ h0 h1 h2 hl
  · have hk : k = 0 := (nI_eq (by omega) (by decide)).mp (hk0.trans nI_0.symm)
    have hrv := hr hk
    have hwv := hw hk
    have hO3 := hO2.kept hF2 (by dsimp only [zRg]; omega)
    obtain ⟨hO4, f, hO5, hO6⟩ := id hO3
    refine lv_aload_n hx hb dL_law_859 rfl (lv_at hl 5 rfl) ?_
    refine lv_iconst (v := 0) hx hb dL_law_860 (by decide) ?_
    refine z_lald C0 hP hO4 hO5 (zIx_of nI_0.symm (by decide) (by decide)) dL_law_861 ?_
    refine lv_iload hx hb dL_law_862 (lv_at hl 0 rfl) ?_
    refine lv_i2l (v := Int32.toInt64 r) hx hb dL_law_864 rfl ?_
    refine W.lcmp hx hb dL_law_865 ?_
    refine lv_if_eq (tgt := 871) hx hb dL_law_866 (by decide) (fun _ => ?_) (fun q => absurd ((lg_cmp_eq _ _).mpr (hO6.trans (hwv.trans (congrArg Int32.toInt64 hrv.symm)))) q)
    refine lv_goto (tgt := 1474) hx hb dL_law_871 (by decide) ?_
    refine W.widen (k := cells + 31) (n := slots + 260) (by omega) (by omega) ?_
    have hl := lv_sub hl (l' := [(0, .ref b), (1, .ref (ad 0)), (2, .ref (ad 221)), (3, .ref (ad 230)), (4, .int (nI i))]) [2, 3, 4, 5, 6] rfl
    rw [h0, h1, h2] at hl
    exact nx _ _ _ _ _ _ hP hS ⟨C2, M2, _, _, hT2.kept hF2 (fun z q1 q2 => by unfold zCl at q1; dsimp only [zRg] at q2; omega), ⟨az, kn, lo, dg, hM3⟩, hO2.kept hF2 (by dsimp only [zRg]; omega), hAG2⟩ h0 h1 h2 hl
set_option maxHeartbeats 1000000 in
theorem lc_cordOf (hfl : l.stackTraces = false) (F : lwF p s m c meth b L xs D cy) {i cells slots : Nat} (hi : i + 4 ≤ L) (hc : cells + 31 ≤ 601024) (hs : slots + 260 ≤ 7293034) (nx : lwG p l e s m below meth c b D cy a0 a1 a2 1474 i (cells + 31) (slots + 260)) : lwG p l e s m below meth c b D cy a0 a1 a2 874 i cells slots := by
  intro K ad g H locs ls hP hS hI h0 h1 h2 hl
  obtain ⟨C, M, th, w, hT, hM, hO, hAG⟩ := hI
  obtain ⟨C0, hTh, hNc, hN, hX, hbl, hL⟩ := F
  have hx := C0.1; have hb := C0.2.1
  have hbA : ¬ s.heap.size ≤ b := Nat.not_le.mpr hbl
  rw [← h0, ← h1, ← h2] at hl
  obtain ⟨fs1, hfs1⟩ := hT.rc
  obtain ⟨k, v, C2, M2, hk3, hAG2, hW, rm, ⟨r1, r2, r3, r4⟩, hMM⟩ := op_cordOf l hfl hAG (xs (nI (i + 1)).toNatClampNeg) (xs (nI (i + 2)).toNatClampNeg)
  refine lv_aload_n hx hb dL_law_874 rfl (lv_at hl 1 rfl) ?_
  refine lv_aload_n hx hb dL_law_875 rfl (lv_at hl 0 rfl) ?_
  refine lv_iload hx hb dL_law_876 (lv_at hl 4 rfl) ?_
  refine lv_iconst (v := 1) hx hb dL_law_878 (by decide) ?_
  refine lv_iadd hx hb dL_law_879 ?_
  refine z_topi (y := nI (i + 1)) (nI_add i 1) ?_
  refine va_sld hx hb hX hbl hbA hS (vp_in_nI (by omega) (by omega)) dL_law_880 ?_
  refine lv_aload_n hx hb dL_law_881 rfl (lv_at hl 0 rfl) ?_
  refine lv_iload hx hb dL_law_882 (lv_at hl 4 rfl) ?_
  refine lv_iconst (v := 2) hx hb dL_law_884 (by decide) ?_
  refine lv_iadd hx hb dL_law_885 ?_
  refine z_topi (y := nI (i + 2)) (nI_add i 2) ?_
  refine va_sld hx hb hX hbl hbA hS (vp_in_nI (by omega) (by omega)) dL_law_886 ?_
  refine lv_aload_n hx hb dL_law_887 rfl (lv_at hl 3 rfl) ?_
  refine z_calli C0 hP hS (z_runSW (As := [.ref (ad 0), .int (xs (nI (i + 1)).toNatClampNeg), .int (xs (nI (i + 2)).toNatClampNeg), .ref (ad 230)]) (rest := []) C0 hTh hNc hP hS hl.1 (hW _ hT hO) lh_cordOf rfl rfl (Nat.le_of_ble_eq_true rfl) rfl rfl ⟨(Nat.le_of_ble_eq_true rfl), (Nat.le_of_ble_eq_true rfl)⟩ ⟨(show cells + 1 ≤ 601024 by omega), (show slots + 6 ≤ 7293034 by omega)⟩ dL_law_888) (fun r g1 H locs hP hS hp => ?_)
  obtain ⟨hr, hT2, ⟨w2, hO2, hw⟩, hF⟩ := hp
  subst hr
  have hM := hM.kept hF (fun z q1 q2 => by unfold zClO zCl; omega)
  refine lv_istore (lv' := [(5, .int (nI k)), (0, .ref b), (1, .ref (ad 0)), (2, .ref (ad 221)), (3, .ref (ad 230)), (4, .int (nI i))]) hx hb dL_law_891 hl (by decide) rfl (fun ls hl => ?_)
  obtain ⟨fs2, hfs2⟩ := hM.rc
  refine lv_aload_n hx hb dL_law_893 rfl (lv_at hl 3 rfl) ?_
  refine lv_aload_n hx hb dL_law_894 rfl (lv_at hl 1 rfl) ?_
  refine lv_iload hx hb dL_law_895 (lv_at hl 5 rfl) ?_
  refine lv_iconst (v := 1) hx hb dL_law_897 (by decide) ?_
  refine lv_iadd hx hb dL_law_898 ?_
  refine z_topi (y := nI (i + 1)) (nI_add i 1) ?_
  refine va_sld hx hb hX hbl hbA hS (vp_in_nI (by omega) (by omega)) dL_law_899 ?_
  refine lv_aload_n hx hb dL_law_900 rfl (lv_at hl 1 rfl) ?_
  refine lv_iload hx hb dL_law_901 (lv_at hl 5 rfl) ?_
  refine lv_iconst (v := 2) hx hb dL_law_903 (by decide) ?_
  refine lv_iadd hx hb dL_law_904 ?_
  refine z_topi (y := nI (i + 2)) (nI_add i 2) ?_
  refine va_sld hx hb hX hbl hbA hS (vp_in_nI (by omega) (by omega)) dL_law_905 ?_
  refine z_Vi_mo (As := [.int (xs (nI (i + 1)).toNatClampNeg), .int (xs (nI (i + 2)).toNatClampNeg)]) (rest := []) C0 hP hS hl.1 (hMM _ hM) lk_L_137 hM.n0 hfs2 rfl rfl (Nat.le_of_ble_eq_true rfl) ⟨(show rm.frames + 1 ≤ 2048 by omega), (show 8 + (_ + 11) + rm.locals ≤ 84000 by omega)⟩ r1 r2 ⟨(show cells + 1 ≤ 601024 by omega), (show slots + 6 ≤ 7293034 by omega)⟩ dL_law_906 (fun r g2 H locs hP hS hp => ?_)
  obtain ⟨hr, hM2, hF2⟩ := hp
  refine lv_istore (lv' := [(6, .int r), (5, .int (nI k)), (0, .ref b), (1, .ref (ad 0)), (2, .ref (ad 221)), (3, .ref (ad 230)), (4, .int (nI i))]) hx hb dL_law_909 hl (by decide) rfl (fun ls hl => ?_)
  refine lv_aload_n hx hb dL_law_911 rfl (lv_at hl 4 rfl) ?_
  obtain ⟨az, kn, lo, dg, hM3⟩ := hM2
  refine z_Vi_eq (As := []) (rest := []) C0 hP hS hl.1 (m_X5_thrown l _ hM3) lk_L_89 hM3.n0 hM3.o rfl rfl (Nat.le_of_ble_eq_true rfl) ⟨(Nat.le_of_ble_eq_true rfl), (Nat.le_of_ble_eq_true rfl)⟩ rfl rfl ⟨(show cells + 1 ≤ 601024 by omega), (show slots + 6 ≤ 7293034 by omega)⟩ dL_law_912 (fun H locs hP hS => ?_)
  refine lv_iload hx hb dL_law_915 (lv_at hl 1 rfl) ?_
  refine lv_icmp_eq (tgt := 922) hx hb dL_law_917 (by decide) (fun _ => ?_) (fun q => absurd rfl q)
  refine lv_iload hx hb dL_law_922 (lv_at hl 1 rfl) ?_
  refine lv_if_ne (tgt := 939) hx hb dL_law_924 (by decide) (fun _ => ?_) (fun hk0 => ?_)
  · refine lv_goto (tgt := 1474) hx hb dL_law_939 (by decide) ?_
    refine W.widen (k := cells + 31) (n := slots + 260) (by omega) (by omega) ?_
    have hl := lv_sub hl (l' := [(0, .ref b), (1, .ref (ad 0)), (2, .ref (ad 221)), (3, .ref (ad 230)), (4, .int (nI i))]) [2, 3, 4, 5, 6] rfl
    rw [h0, h1, h2] at hl
    exact nx _ _ _ _ _ _ hP hS ⟨C2, M2, _, _, hT2.kept hF2 (fun z q1 q2 => by unfold zCl at q1; dsimp only [zRg] at q2; omega), ⟨az, kn, lo, dg, hM3⟩, hO2.kept hF2 (by dsimp only [zRg]; omega), hAG2⟩ h0 h1 h2 hl
  · have hk : k = 0 := (nI_eq (by omega) (by decide)).mp (hk0.trans nI_0.symm)
    have hrv := hr hk
    have hwv := hw hk
    have hO3 := hO2.kept hF2 (by dsimp only [zRg]; omega)
    obtain ⟨hO4, f, hO5, hO6⟩ := id hO3
    refine lv_aload_n hx hb dL_law_927 rfl (lv_at hl 5 rfl) ?_
    refine lv_iconst (v := 0) hx hb dL_law_928 (by decide) ?_
    refine z_lald C0 hP hO4 hO5 (zIx_of nI_0.symm (by decide) (by decide)) dL_law_929 ?_
    refine lv_iload hx hb dL_law_930 (lv_at hl 0 rfl) ?_
    refine lv_i2l (v := Int32.toInt64 r) hx hb dL_law_932 rfl ?_
    refine W.lcmp hx hb dL_law_933 ?_
    refine lv_if_eq (tgt := 939) hx hb dL_law_934 (by decide) (fun _ => ?_) (fun q => absurd ((lg_cmp_eq _ _).mpr (hO6.trans (hwv.trans (congrArg Int32.toInt64 hrv.symm)))) q)
    refine lv_goto (tgt := 1474) hx hb dL_law_939 (by decide) ?_
    refine W.widen (k := cells + 31) (n := slots + 260) (by omega) (by omega) ?_
    have hl := lv_sub hl (l' := [(0, .ref b), (1, .ref (ad 0)), (2, .ref (ad 221)), (3, .ref (ad 230)), (4, .int (nI i))]) [2, 3, 4, 5, 6] rfl
    rw [h0, h1, h2] at hl
    exact nx _ _ _ _ _ _ hP hS ⟨C2, M2, _, _, hT2.kept hF2 (fun z q1 q2 => by unfold zCl at q1; dsimp only [zRg] at q2; omega), ⟨az, kn, lo, dg, hM3⟩, hO2.kept hF2 (by dsimp only [zRg]; omega), hAG2⟩ h0 h1 h2 hl
set_option maxHeartbeats 1000000 in
theorem lc_placeOf (hfl : l.stackTraces = false) (F : lwF p s m c meth b L xs D cy) {i cells slots : Nat} (hi : i + 4 ≤ L) (hc : cells + 31 ≤ 601024) (hs : slots + 260 ≤ 7293034) (nx : lwG p l e s m below meth c b D cy a0 a1 a2 1474 i (cells + 31) (slots + 260)) : lwG p l e s m below meth c b D cy a0 a1 a2 942 i cells slots := by
  intro K ad g H locs ls hP hS hI h0 h1 h2 hl
  obtain ⟨C, M, th, w, hT, hM, hO, hAG⟩ := hI
  obtain ⟨C0, hTh, hNc, hN, hX, hbl, hL⟩ := F
  have hx := C0.1; have hb := C0.2.1
  have hbA : ¬ s.heap.size ≤ b := Nat.not_le.mpr hbl
  rw [← h0, ← h1, ← h2] at hl
  obtain ⟨fs1, hfs1⟩ := hT.rc
  obtain ⟨k, v, C2, M2, hk3, hAG2, hW, rm, ⟨r1, r2, r3, r4⟩, hMM⟩ := op_placeOf l hfl hAG (xs (nI (i + 1)).toNatClampNeg) (xs (nI (i + 2)).toNatClampNeg) (xs (nI (i + 3)).toNatClampNeg)
  refine lv_aload_n hx hb dL_law_942 rfl (lv_at hl 1 rfl) ?_
  refine lv_aload_n hx hb dL_law_943 rfl (lv_at hl 0 rfl) ?_
  refine lv_iload hx hb dL_law_944 (lv_at hl 4 rfl) ?_
  refine lv_iconst (v := 1) hx hb dL_law_946 (by decide) ?_
  refine lv_iadd hx hb dL_law_947 ?_
  refine z_topi (y := nI (i + 1)) (nI_add i 1) ?_
  refine va_sld hx hb hX hbl hbA hS (vp_in_nI (by omega) (by omega)) dL_law_948 ?_
  refine lv_aload_n hx hb dL_law_949 rfl (lv_at hl 0 rfl) ?_
  refine lv_iload hx hb dL_law_950 (lv_at hl 4 rfl) ?_
  refine lv_iconst (v := 2) hx hb dL_law_952 (by decide) ?_
  refine lv_iadd hx hb dL_law_953 ?_
  refine z_topi (y := nI (i + 2)) (nI_add i 2) ?_
  refine va_sld hx hb hX hbl hbA hS (vp_in_nI (by omega) (by omega)) dL_law_954 ?_
  refine lv_aload_n hx hb dL_law_955 rfl (lv_at hl 0 rfl) ?_
  refine lv_iload hx hb dL_law_956 (lv_at hl 4 rfl) ?_
  refine lv_iconst (v := 3) hx hb dL_law_958 (by decide) ?_
  refine lv_iadd hx hb dL_law_959 ?_
  refine z_topi (y := nI (i + 3)) (nI_add i 3) ?_
  refine va_sld hx hb hX hbl hbA hS (vp_in_nI (by omega) (by omega)) dL_law_960 ?_
  refine lv_aload_n hx hb dL_law_961 rfl (lv_at hl 3 rfl) ?_
  refine z_calli C0 hP hS (z_runSW (As := [.ref (ad 0), .int (xs (nI (i + 1)).toNatClampNeg), .int (xs (nI (i + 2)).toNatClampNeg), .int (xs (nI (i + 3)).toNatClampNeg), .ref (ad 230)]) (rest := []) C0 hTh hNc hP hS hl.1 (hW _ hT hO) lh_placeOf rfl rfl (Nat.le_of_ble_eq_true rfl) rfl rfl ⟨(Nat.le_of_ble_eq_true rfl), (Nat.le_of_ble_eq_true rfl)⟩ ⟨(show cells + 1 ≤ 601024 by omega), (show slots + 6 ≤ 7293034 by omega)⟩ dL_law_962) (fun r g1 H locs hP hS hp => ?_)
  obtain ⟨hr, hT2, ⟨w2, hO2, hw⟩, hF⟩ := hp
  subst hr
  have hM := hM.kept hF (fun z q1 q2 => by unfold zClO zCl; omega)
  refine lv_istore (lv' := [(5, .int (nI k)), (0, .ref b), (1, .ref (ad 0)), (2, .ref (ad 221)), (3, .ref (ad 230)), (4, .int (nI i))]) hx hb dL_law_965 hl (by decide) rfl (fun ls hl => ?_)
  obtain ⟨fs2, hfs2⟩ := hM.rc
  refine lv_aload_n hx hb dL_law_967 rfl (lv_at hl 3 rfl) ?_
  refine lv_aload_n hx hb dL_law_968 rfl (lv_at hl 1 rfl) ?_
  refine lv_iload hx hb dL_law_969 (lv_at hl 5 rfl) ?_
  refine lv_iconst (v := 1) hx hb dL_law_971 (by decide) ?_
  refine lv_iadd hx hb dL_law_972 ?_
  refine z_topi (y := nI (i + 1)) (nI_add i 1) ?_
  refine va_sld hx hb hX hbl hbA hS (vp_in_nI (by omega) (by omega)) dL_law_973 ?_
  refine lv_aload_n hx hb dL_law_974 rfl (lv_at hl 1 rfl) ?_
  refine lv_iload hx hb dL_law_975 (lv_at hl 5 rfl) ?_
  refine lv_iconst (v := 2) hx hb dL_law_977 (by decide) ?_
  refine lv_iadd hx hb dL_law_978 ?_
  refine z_topi (y := nI (i + 2)) (nI_add i 2) ?_
  refine va_sld hx hb hX hbl hbA hS (vp_in_nI (by omega) (by omega)) dL_law_979 ?_
  refine lv_aload_n hx hb dL_law_980 rfl (lv_at hl 1 rfl) ?_
  refine lv_iload hx hb dL_law_981 (lv_at hl 5 rfl) ?_
  refine lv_iconst (v := 3) hx hb dL_law_983 (by decide) ?_
  refine lv_iadd hx hb dL_law_984 ?_
  refine z_topi (y := nI (i + 3)) (nI_add i 3) ?_
  refine va_sld hx hb hX hbl hbA hS (vp_in_nI (by omega) (by omega)) dL_law_985 ?_
  refine z_Vi_mo (As := [.int (xs (nI (i + 1)).toNatClampNeg), .int (xs (nI (i + 2)).toNatClampNeg), .int (xs (nI (i + 3)).toNatClampNeg)]) (rest := []) C0 hP hS hl.1 (hMM _ hM) lk_L_141 hM.n0 hfs2 rfl rfl (Nat.le_of_ble_eq_true rfl) ⟨(show rm.frames + 1 ≤ 2048 by omega), (show 8 + (_ + 11) + rm.locals ≤ 84000 by omega)⟩ r1 r2 ⟨(show cells + 1 ≤ 601024 by omega), (show slots + 6 ≤ 7293034 by omega)⟩ dL_law_986 (fun r g2 H locs hP hS hp => ?_)
  obtain ⟨hr, hM2, hF2⟩ := hp
  refine lv_istore (lv' := [(6, .int r), (5, .int (nI k)), (0, .ref b), (1, .ref (ad 0)), (2, .ref (ad 221)), (3, .ref (ad 230)), (4, .int (nI i))]) hx hb dL_law_989 hl (by decide) rfl (fun ls hl => ?_)
  refine lv_aload_n hx hb dL_law_991 rfl (lv_at hl 4 rfl) ?_
  obtain ⟨az, kn, lo, dg, hM3⟩ := hM2
  refine z_Vi_eq (As := []) (rest := []) C0 hP hS hl.1 (m_X5_thrown l _ hM3) lk_L_89 hM3.n0 hM3.o rfl rfl (Nat.le_of_ble_eq_true rfl) ⟨(Nat.le_of_ble_eq_true rfl), (Nat.le_of_ble_eq_true rfl)⟩ rfl rfl ⟨(show cells + 1 ≤ 601024 by omega), (show slots + 6 ≤ 7293034 by omega)⟩ dL_law_992 (fun H locs hP hS => ?_)
  refine lv_iload hx hb dL_law_995 (lv_at hl 1 rfl) ?_
  refine lv_icmp_eq (tgt := 1002) hx hb dL_law_997 (by decide) (fun _ => ?_) (fun q => absurd rfl q)
  refine lv_iload hx hb dL_law_1002 (lv_at hl 1 rfl) ?_
  refine lv_if_ne (tgt := 1019) hx hb dL_law_1004 (by decide) (fun _ => ?_) (fun hk0 => ?_)
  · refine lv_goto (tgt := 1474) hx hb dL_law_1019 (by decide) ?_
    refine W.widen (k := cells + 31) (n := slots + 260) (by omega) (by omega) ?_
    have hl := lv_sub hl (l' := [(0, .ref b), (1, .ref (ad 0)), (2, .ref (ad 221)), (3, .ref (ad 230)), (4, .int (nI i))]) [2, 3, 4, 5, 6] rfl
    rw [h0, h1, h2] at hl
    exact nx _ _ _ _ _ _ hP hS ⟨C2, M2, _, _, hT2.kept hF2 (fun z q1 q2 => by unfold zCl at q1; dsimp only [zRg] at q2; omega), ⟨az, kn, lo, dg, hM3⟩, hO2.kept hF2 (by dsimp only [zRg]; omega), hAG2⟩ h0 h1 h2 hl
  · have hk : k = 0 := (nI_eq (by omega) (by decide)).mp (hk0.trans nI_0.symm)
    have hrv := hr hk
    have hwv := hw hk
    have hO3 := hO2.kept hF2 (by dsimp only [zRg]; omega)
    obtain ⟨hO4, f, hO5, hO6⟩ := id hO3
    refine lv_aload_n hx hb dL_law_1007 rfl (lv_at hl 5 rfl) ?_
    refine lv_iconst (v := 0) hx hb dL_law_1008 (by decide) ?_
    refine z_lald C0 hP hO4 hO5 (zIx_of nI_0.symm (by decide) (by decide)) dL_law_1009 ?_
    refine lv_iload hx hb dL_law_1010 (lv_at hl 0 rfl) ?_
    refine lv_i2l (v := Int32.toInt64 r) hx hb dL_law_1012 rfl ?_
    refine W.lcmp hx hb dL_law_1013 ?_
    refine lv_if_eq (tgt := 1019) hx hb dL_law_1014 (by decide) (fun _ => ?_) (fun q => absurd ((lg_cmp_eq _ _).mpr (hO6.trans (hwv.trans (congrArg Int32.toInt64 hrv.symm)))) q)
    refine lv_goto (tgt := 1474) hx hb dL_law_1019 (by decide) ?_
    refine W.widen (k := cells + 31) (n := slots + 260) (by omega) (by omega) ?_
    have hl := lv_sub hl (l' := [(0, .ref b), (1, .ref (ad 0)), (2, .ref (ad 221)), (3, .ref (ad 230)), (4, .int (nI i))]) [2, 3, 4, 5, 6] rfl
    rw [h0, h1, h2] at hl
    exact nx _ _ _ _ _ _ hP hS ⟨C2, M2, _, _, hT2.kept hF2 (fun z q1 q2 => by unfold zCl at q1; dsimp only [zRg] at q2; omega), ⟨az, kn, lo, dg, hM3⟩, hO2.kept hF2 (by dsimp only [zRg]; omega), hAG2⟩ h0 h1 h2 hl
set_option maxHeartbeats 1000000 in
theorem lc_part (hfl : l.stackTraces = false) (F : lwF p s m c meth b L xs D cy) {i cells slots : Nat} (hi : i + 4 ≤ L) (hc : cells + 31 ≤ 601024) (hs : slots + 260 ≤ 7293034) (nx : lwG p l e s m below meth c b D cy a0 a1 a2 1474 i (cells + 31) (slots + 260)) : lwG p l e s m below meth c b D cy a0 a1 a2 1022 i cells slots := by
  intro K ad g H locs ls hP hS hI h0 h1 h2 hl
  obtain ⟨C, M, th, w, hT, hM, hO, hAG⟩ := hI
  obtain ⟨C0, hTh, hNc, hN, hX, hbl, hL⟩ := F
  have hx := C0.1; have hb := C0.2.1
  have hbA : ¬ s.heap.size ≤ b := Nat.not_le.mpr hbl
  rw [← h0, ← h1, ← h2] at hl
  obtain ⟨fs1, hfs1⟩ := hT.rc
  obtain ⟨k, v, C2, M2, hk3, hAG2, hW, rm, ⟨r1, r2, r3, r4⟩, hMM⟩ := op_part l hfl hAG (xs (nI (i + 1)).toNatClampNeg) (xs (nI (i + 2)).toNatClampNeg)
  refine lv_aload_n hx hb dL_law_1022 rfl (lv_at hl 1 rfl) ?_
  refine lv_aload_n hx hb dL_law_1023 rfl (lv_at hl 0 rfl) ?_
  refine lv_iload hx hb dL_law_1024 (lv_at hl 4 rfl) ?_
  refine lv_iconst (v := 1) hx hb dL_law_1026 (by decide) ?_
  refine lv_iadd hx hb dL_law_1027 ?_
  refine z_topi (y := nI (i + 1)) (nI_add i 1) ?_
  refine va_sld hx hb hX hbl hbA hS (vp_in_nI (by omega) (by omega)) dL_law_1028 ?_
  refine lv_aload_n hx hb dL_law_1029 rfl (lv_at hl 0 rfl) ?_
  refine lv_iload hx hb dL_law_1030 (lv_at hl 4 rfl) ?_
  refine lv_iconst (v := 2) hx hb dL_law_1032 (by decide) ?_
  refine lv_iadd hx hb dL_law_1033 ?_
  refine z_topi (y := nI (i + 2)) (nI_add i 2) ?_
  refine va_sld hx hb hX hbl hbA hS (vp_in_nI (by omega) (by omega)) dL_law_1034 ?_
  refine lv_aload_n hx hb dL_law_1035 rfl (lv_at hl 3 rfl) ?_
  refine z_calli C0 hP hS (z_runSW (As := [.ref (ad 0), .int (xs (nI (i + 1)).toNatClampNeg), .int (xs (nI (i + 2)).toNatClampNeg), .ref (ad 230)]) (rest := []) C0 hTh hNc hP hS hl.1 (hW _ hT hO) lh_part rfl rfl (Nat.le_of_ble_eq_true rfl) rfl rfl ⟨(Nat.le_of_ble_eq_true rfl), (Nat.le_of_ble_eq_true rfl)⟩ ⟨(show cells + 1 ≤ 601024 by omega), (show slots + 6 ≤ 7293034 by omega)⟩ dL_law_1036) (fun r g1 H locs hP hS hp => ?_)
  obtain ⟨hr, hT2, ⟨w2, hO2, hw⟩, hF⟩ := hp
  subst hr
  have hM := hM.kept hF (fun z q1 q2 => by unfold zClO zCl; omega)
  refine lv_istore (lv' := [(5, .int (nI k)), (0, .ref b), (1, .ref (ad 0)), (2, .ref (ad 221)), (3, .ref (ad 230)), (4, .int (nI i))]) hx hb dL_law_1039 hl (by decide) rfl (fun ls hl => ?_)
  obtain ⟨fs2, hfs2⟩ := hM.rc
  refine lv_aload_n hx hb dL_law_1041 rfl (lv_at hl 3 rfl) ?_
  refine lv_aload_n hx hb dL_law_1042 rfl (lv_at hl 1 rfl) ?_
  refine lv_iload hx hb dL_law_1043 (lv_at hl 5 rfl) ?_
  refine lv_iconst (v := 1) hx hb dL_law_1045 (by decide) ?_
  refine lv_iadd hx hb dL_law_1046 ?_
  refine z_topi (y := nI (i + 1)) (nI_add i 1) ?_
  refine va_sld hx hb hX hbl hbA hS (vp_in_nI (by omega) (by omega)) dL_law_1047 ?_
  refine lv_aload_n hx hb dL_law_1048 rfl (lv_at hl 1 rfl) ?_
  refine lv_iload hx hb dL_law_1049 (lv_at hl 5 rfl) ?_
  refine lv_iconst (v := 2) hx hb dL_law_1051 (by decide) ?_
  refine lv_iadd hx hb dL_law_1052 ?_
  refine z_topi (y := nI (i + 2)) (nI_add i 2) ?_
  refine va_sld hx hb hX hbl hbA hS (vp_in_nI (by omega) (by omega)) dL_law_1053 ?_
  refine z_Vi_mo (As := [.int (xs (nI (i + 1)).toNatClampNeg), .int (xs (nI (i + 2)).toNatClampNeg)]) (rest := []) C0 hP hS hl.1 (hMM _ hM) lk_L_144 hM.n0 hfs2 rfl rfl (Nat.le_of_ble_eq_true rfl) ⟨(show rm.frames + 1 ≤ 2048 by omega), (show 8 + (_ + 11) + rm.locals ≤ 84000 by omega)⟩ r1 r2 ⟨(show cells + 1 ≤ 601024 by omega), (show slots + 6 ≤ 7293034 by omega)⟩ dL_law_1054 (fun r g2 H locs hP hS hp => ?_)
  obtain ⟨hr, hM2, hF2⟩ := hp
  refine lv_istore (lv' := [(6, .int r), (5, .int (nI k)), (0, .ref b), (1, .ref (ad 0)), (2, .ref (ad 221)), (3, .ref (ad 230)), (4, .int (nI i))]) hx hb dL_law_1057 hl (by decide) rfl (fun ls hl => ?_)
  refine lv_aload_n hx hb dL_law_1059 rfl (lv_at hl 4 rfl) ?_
  obtain ⟨az, kn, lo, dg, hM3⟩ := hM2
  refine z_Vi_eq (As := []) (rest := []) C0 hP hS hl.1 (m_X5_thrown l _ hM3) lk_L_89 hM3.n0 hM3.o rfl rfl (Nat.le_of_ble_eq_true rfl) ⟨(Nat.le_of_ble_eq_true rfl), (Nat.le_of_ble_eq_true rfl)⟩ rfl rfl ⟨(show cells + 1 ≤ 601024 by omega), (show slots + 6 ≤ 7293034 by omega)⟩ dL_law_1060 (fun H locs hP hS => ?_)
  refine lv_iload hx hb dL_law_1063 (lv_at hl 1 rfl) ?_
  refine lv_icmp_eq (tgt := 1070) hx hb dL_law_1065 (by decide) (fun _ => ?_) (fun q => absurd rfl q)
  refine lv_iload hx hb dL_law_1070 (lv_at hl 1 rfl) ?_
  refine lv_if_ne (tgt := 1087) hx hb dL_law_1072 (by decide) (fun _ => ?_) (fun hk0 => ?_)
  · refine lv_goto (tgt := 1474) hx hb dL_law_1087 (by decide) ?_
    refine W.widen (k := cells + 31) (n := slots + 260) (by omega) (by omega) ?_
    have hl := lv_sub hl (l' := [(0, .ref b), (1, .ref (ad 0)), (2, .ref (ad 221)), (3, .ref (ad 230)), (4, .int (nI i))]) [2, 3, 4, 5, 6] rfl
    rw [h0, h1, h2] at hl
    exact nx _ _ _ _ _ _ hP hS ⟨C2, M2, _, _, hT2.kept hF2 (fun z q1 q2 => by unfold zCl at q1; dsimp only [zRg] at q2; omega), ⟨az, kn, lo, dg, hM3⟩, hO2.kept hF2 (by dsimp only [zRg]; omega), hAG2⟩ h0 h1 h2 hl
  · have hk : k = 0 := (nI_eq (by omega) (by decide)).mp (hk0.trans nI_0.symm)
    have hrv := hr hk
    have hwv := hw hk
    have hO3 := hO2.kept hF2 (by dsimp only [zRg]; omega)
    obtain ⟨hO4, f, hO5, hO6⟩ := id hO3
    refine lv_aload_n hx hb dL_law_1075 rfl (lv_at hl 5 rfl) ?_
    refine lv_iconst (v := 0) hx hb dL_law_1076 (by decide) ?_
    refine z_lald C0 hP hO4 hO5 (zIx_of nI_0.symm (by decide) (by decide)) dL_law_1077 ?_
    refine lv_iload hx hb dL_law_1078 (lv_at hl 0 rfl) ?_
    refine lv_i2l (v := Int32.toInt64 r) hx hb dL_law_1080 rfl ?_
    refine W.lcmp hx hb dL_law_1081 ?_
    refine lv_if_eq (tgt := 1087) hx hb dL_law_1082 (by decide) (fun _ => ?_) (fun q => absurd ((lg_cmp_eq _ _).mpr (hO6.trans (hwv.trans (congrArg Int32.toInt64 hrv.symm)))) q)
    refine lv_goto (tgt := 1474) hx hb dL_law_1087 (by decide) ?_
    refine W.widen (k := cells + 31) (n := slots + 260) (by omega) (by omega) ?_
    have hl := lv_sub hl (l' := [(0, .ref b), (1, .ref (ad 0)), (2, .ref (ad 221)), (3, .ref (ad 230)), (4, .int (nI i))]) [2, 3, 4, 5, 6] rfl
    rw [h0, h1, h2] at hl
    exact nx _ _ _ _ _ _ hP hS ⟨C2, M2, _, _, hT2.kept hF2 (fun z q1 q2 => by unfold zCl at q1; dsimp only [zRg] at q2; omega), ⟨az, kn, lo, dg, hM3⟩, hO2.kept hF2 (by dsimp only [zRg]; omega), hAG2⟩ h0 h1 h2 hl
set_option maxHeartbeats 1000000 in
theorem lc_count (hfl : l.stackTraces = false) (F : lwF p s m c meth b L xs D cy) {i cells slots : Nat} (hi : i + 4 ≤ L) (hc : cells + 31 ≤ 601024) (hs : slots + 260 ≤ 7293034) (nx : lwG p l e s m below meth c b D cy a0 a1 a2 1474 i (cells + 31) (slots + 260)) : lwG p l e s m below meth c b D cy a0 a1 a2 1090 i cells slots := by
  intro K ad g H locs ls hP hS hI h0 h1 h2 hl
  obtain ⟨C, M, th, w, hT, hM, hO, hAG⟩ := hI
  obtain ⟨C0, hTh, hNc, hN, hX, hbl, hL⟩ := F
  have hx := C0.1; have hb := C0.2.1
  have hbA : ¬ s.heap.size ≤ b := Nat.not_le.mpr hbl
  rw [← h0, ← h1, ← h2] at hl
  obtain ⟨fs1, hfs1⟩ := hT.rc
  obtain ⟨k, v, C2, M2, hk3, hAG2, hW, rm, ⟨r1, r2, r3, r4⟩, hMM⟩ := op_count l hfl hAG (xs (nI (i + 1)).toNatClampNeg)
  refine lv_aload_n hx hb dL_law_1090 rfl (lv_at hl 1 rfl) ?_
  refine lv_aload_n hx hb dL_law_1091 rfl (lv_at hl 0 rfl) ?_
  refine lv_iload hx hb dL_law_1092 (lv_at hl 4 rfl) ?_
  refine lv_iconst (v := 1) hx hb dL_law_1094 (by decide) ?_
  refine lv_iadd hx hb dL_law_1095 ?_
  refine z_topi (y := nI (i + 1)) (nI_add i 1) ?_
  refine va_sld hx hb hX hbl hbA hS (vp_in_nI (by omega) (by omega)) dL_law_1096 ?_
  refine lv_aload_n hx hb dL_law_1097 rfl (lv_at hl 3 rfl) ?_
  refine z_calli C0 hP hS (z_runSW (As := [.ref (ad 0), .int (xs (nI (i + 1)).toNatClampNeg), .ref (ad 230)]) (rest := []) C0 hTh hNc hP hS hl.1 (hW _ hT hO) lh_count rfl rfl (Nat.le_of_ble_eq_true rfl) rfl rfl ⟨(Nat.le_of_ble_eq_true rfl), (Nat.le_of_ble_eq_true rfl)⟩ ⟨(show cells + 1 ≤ 601024 by omega), (show slots + 6 ≤ 7293034 by omega)⟩ dL_law_1098) (fun r g1 H locs hP hS hp => ?_)
  obtain ⟨hr, hT2, ⟨w2, hO2, hw⟩, hF⟩ := hp
  subst hr
  have hM := hM.kept hF (fun z q1 q2 => by unfold zClO zCl; omega)
  refine lv_istore (lv' := [(5, .int (nI k)), (0, .ref b), (1, .ref (ad 0)), (2, .ref (ad 221)), (3, .ref (ad 230)), (4, .int (nI i))]) hx hb dL_law_1101 hl (by decide) rfl (fun ls hl => ?_)
  obtain ⟨fs2, hfs2⟩ := hM.rc
  refine lv_aload_n hx hb dL_law_1103 rfl (lv_at hl 3 rfl) ?_
  refine lv_aload_n hx hb dL_law_1104 rfl (lv_at hl 1 rfl) ?_
  refine lv_iload hx hb dL_law_1105 (lv_at hl 5 rfl) ?_
  refine lv_iconst (v := 1) hx hb dL_law_1107 (by decide) ?_
  refine lv_iadd hx hb dL_law_1108 ?_
  refine z_topi (y := nI (i + 1)) (nI_add i 1) ?_
  refine va_sld hx hb hX hbl hbA hS (vp_in_nI (by omega) (by omega)) dL_law_1109 ?_
  refine z_Vi_mo (As := [.int (xs (nI (i + 1)).toNatClampNeg)]) (rest := []) C0 hP hS hl.1 (hMM _ hM) lk_L_147 hM.n0 hfs2 rfl rfl (Nat.le_of_ble_eq_true rfl) ⟨(show rm.frames + 1 ≤ 2048 by omega), (show 8 + (_ + 11) + rm.locals ≤ 84000 by omega)⟩ r1 r2 ⟨(show cells + 1 ≤ 601024 by omega), (show slots + 6 ≤ 7293034 by omega)⟩ dL_law_1110 (fun r g2 H locs hP hS hp => ?_)
  obtain ⟨hr, hM2, hF2⟩ := hp
  refine lv_istore (lv' := [(6, .int r), (5, .int (nI k)), (0, .ref b), (1, .ref (ad 0)), (2, .ref (ad 221)), (3, .ref (ad 230)), (4, .int (nI i))]) hx hb dL_law_1113 hl (by decide) rfl (fun ls hl => ?_)
  refine lv_aload_n hx hb dL_law_1115 rfl (lv_at hl 4 rfl) ?_
  obtain ⟨az, kn, lo, dg, hM3⟩ := hM2
  refine z_Vi_eq (As := []) (rest := []) C0 hP hS hl.1 (m_X5_thrown l _ hM3) lk_L_89 hM3.n0 hM3.o rfl rfl (Nat.le_of_ble_eq_true rfl) ⟨(Nat.le_of_ble_eq_true rfl), (Nat.le_of_ble_eq_true rfl)⟩ rfl rfl ⟨(show cells + 1 ≤ 601024 by omega), (show slots + 6 ≤ 7293034 by omega)⟩ dL_law_1116 (fun H locs hP hS => ?_)
  refine lv_iload hx hb dL_law_1119 (lv_at hl 1 rfl) ?_
  refine lv_icmp_eq (tgt := 1126) hx hb dL_law_1121 (by decide) (fun _ => ?_) (fun q => absurd rfl q)
  refine lv_iload hx hb dL_law_1126 (lv_at hl 1 rfl) ?_
  refine lv_if_ne (tgt := 1143) hx hb dL_law_1128 (by decide) (fun _ => ?_) (fun hk0 => ?_)
  · refine lv_goto (tgt := 1474) hx hb dL_law_1143 (by decide) ?_
    refine W.widen (k := cells + 31) (n := slots + 260) (by omega) (by omega) ?_
    have hl := lv_sub hl (l' := [(0, .ref b), (1, .ref (ad 0)), (2, .ref (ad 221)), (3, .ref (ad 230)), (4, .int (nI i))]) [2, 3, 4, 5, 6] rfl
    rw [h0, h1, h2] at hl
    exact nx _ _ _ _ _ _ hP hS ⟨C2, M2, _, _, hT2.kept hF2 (fun z q1 q2 => by unfold zCl at q1; dsimp only [zRg] at q2; omega), ⟨az, kn, lo, dg, hM3⟩, hO2.kept hF2 (by dsimp only [zRg]; omega), hAG2⟩ h0 h1 h2 hl
  · have hk : k = 0 := (nI_eq (by omega) (by decide)).mp (hk0.trans nI_0.symm)
    have hrv := hr hk
    have hwv := hw hk
    have hO3 := hO2.kept hF2 (by dsimp only [zRg]; omega)
    obtain ⟨hO4, f, hO5, hO6⟩ := id hO3
    refine lv_aload_n hx hb dL_law_1131 rfl (lv_at hl 5 rfl) ?_
    refine lv_iconst (v := 0) hx hb dL_law_1132 (by decide) ?_
    refine z_lald C0 hP hO4 hO5 (zIx_of nI_0.symm (by decide) (by decide)) dL_law_1133 ?_
    refine lv_iload hx hb dL_law_1134 (lv_at hl 0 rfl) ?_
    refine lv_i2l (v := Int32.toInt64 r) hx hb dL_law_1136 rfl ?_
    refine W.lcmp hx hb dL_law_1137 ?_
    refine lv_if_eq (tgt := 1143) hx hb dL_law_1138 (by decide) (fun _ => ?_) (fun q => absurd ((lg_cmp_eq _ _).mpr (hO6.trans (hwv.trans (congrArg Int32.toInt64 hrv.symm)))) q)
    refine lv_goto (tgt := 1474) hx hb dL_law_1143 (by decide) ?_
    refine W.widen (k := cells + 31) (n := slots + 260) (by omega) (by omega) ?_
    have hl := lv_sub hl (l' := [(0, .ref b), (1, .ref (ad 0)), (2, .ref (ad 221)), (3, .ref (ad 230)), (4, .int (nI i))]) [2, 3, 4, 5, 6] rfl
    rw [h0, h1, h2] at hl
    exact nx _ _ _ _ _ _ hP hS ⟨C2, M2, _, _, hT2.kept hF2 (fun z q1 q2 => by unfold zCl at q1; dsimp only [zRg] at q2; omega), ⟨az, kn, lo, dg, hM3⟩, hO2.kept hF2 (by dsimp only [zRg]; omega), hAG2⟩ h0 h1 h2 hl
set_option maxHeartbeats 1000000 in
theorem lc_byHue (hfl : l.stackTraces = false) (F : lwF p s m c meth b L xs D cy) {i cells slots : Nat} (hi : i + 4 ≤ L) (hc : cells + 31 ≤ 601024) (hs : slots + 260 ≤ 7293034) (nx : lwG p l e s m below meth c b D cy a0 a1 a2 1474 i (cells + 31) (slots + 260)) : lwG p l e s m below meth c b D cy a0 a1 a2 1146 i cells slots := by
  intro K ad g H locs ls hP hS hI h0 h1 h2 hl
  obtain ⟨C, M, th, w, hT, hM, hO, hAG⟩ := hI
  obtain ⟨C0, hTh, hNc, hN, hX, hbl, hL⟩ := F
  have hx := C0.1; have hb := C0.2.1
  have hbA : ¬ s.heap.size ≤ b := Nat.not_le.mpr hbl
  rw [← h0, ← h1, ← h2] at hl
  obtain ⟨fs1, hfs1⟩ := hT.rc
  obtain ⟨k, v, C2, M2, hk3, hAG2, hW, rm, ⟨r1, r2, r3, r4⟩, hMM⟩ := op_byHue l hfl hAG (xs (nI (i + 1)).toNatClampNeg)
  refine lv_aload_n hx hb dL_law_1146 rfl (lv_at hl 1 rfl) ?_
  refine lv_aload_n hx hb dL_law_1147 rfl (lv_at hl 0 rfl) ?_
  refine lv_iload hx hb dL_law_1148 (lv_at hl 4 rfl) ?_
  refine lv_iconst (v := 1) hx hb dL_law_1150 (by decide) ?_
  refine lv_iadd hx hb dL_law_1151 ?_
  refine z_topi (y := nI (i + 1)) (nI_add i 1) ?_
  refine va_sld hx hb hX hbl hbA hS (vp_in_nI (by omega) (by omega)) dL_law_1152 ?_
  refine lv_aload_n hx hb dL_law_1153 rfl (lv_at hl 3 rfl) ?_
  refine z_calli C0 hP hS (z_runSW (As := [.ref (ad 0), .int (xs (nI (i + 1)).toNatClampNeg), .ref (ad 230)]) (rest := []) C0 hTh hNc hP hS hl.1 (hW _ hT hO) lh_byHue rfl rfl (Nat.le_of_ble_eq_true rfl) rfl rfl ⟨(Nat.le_of_ble_eq_true rfl), (Nat.le_of_ble_eq_true rfl)⟩ ⟨(show cells + 1 ≤ 601024 by omega), (show slots + 6 ≤ 7293034 by omega)⟩ dL_law_1154) (fun r g1 H locs hP hS hp => ?_)
  obtain ⟨hr, hT2, ⟨w2, hO2, hw⟩, hF⟩ := hp
  subst hr
  have hM := hM.kept hF (fun z q1 q2 => by unfold zClO zCl; omega)
  refine lv_istore (lv' := [(5, .int (nI k)), (0, .ref b), (1, .ref (ad 0)), (2, .ref (ad 221)), (3, .ref (ad 230)), (4, .int (nI i))]) hx hb dL_law_1157 hl (by decide) rfl (fun ls hl => ?_)
  obtain ⟨fs2, hfs2⟩ := hM.rc
  refine lv_aload_n hx hb dL_law_1159 rfl (lv_at hl 3 rfl) ?_
  refine lv_aload_n hx hb dL_law_1160 rfl (lv_at hl 1 rfl) ?_
  refine lv_iload hx hb dL_law_1161 (lv_at hl 5 rfl) ?_
  refine lv_iconst (v := 1) hx hb dL_law_1163 (by decide) ?_
  refine lv_iadd hx hb dL_law_1164 ?_
  refine z_topi (y := nI (i + 1)) (nI_add i 1) ?_
  refine va_sld hx hb hX hbl hbA hS (vp_in_nI (by omega) (by omega)) dL_law_1165 ?_
  refine z_Vi_mo (As := [.int (xs (nI (i + 1)).toNatClampNeg)]) (rest := []) C0 hP hS hl.1 (hMM _ hM) lk_L_150 hM.n0 hfs2 rfl rfl (Nat.le_of_ble_eq_true rfl) ⟨(show rm.frames + 1 ≤ 2048 by omega), (show 8 + (_ + 11) + rm.locals ≤ 84000 by omega)⟩ r1 r2 ⟨(show cells + 1 ≤ 601024 by omega), (show slots + 6 ≤ 7293034 by omega)⟩ dL_law_1166 (fun r g2 H locs hP hS hp => ?_)
  obtain ⟨hr, hM2, hF2⟩ := hp
  refine lv_istore (lv' := [(6, .int r), (5, .int (nI k)), (0, .ref b), (1, .ref (ad 0)), (2, .ref (ad 221)), (3, .ref (ad 230)), (4, .int (nI i))]) hx hb dL_law_1169 hl (by decide) rfl (fun ls hl => ?_)
  refine lv_aload_n hx hb dL_law_1171 rfl (lv_at hl 4 rfl) ?_
  obtain ⟨az, kn, lo, dg, hM3⟩ := hM2
  refine z_Vi_eq (As := []) (rest := []) C0 hP hS hl.1 (m_X5_thrown l _ hM3) lk_L_89 hM3.n0 hM3.o rfl rfl (Nat.le_of_ble_eq_true rfl) ⟨(Nat.le_of_ble_eq_true rfl), (Nat.le_of_ble_eq_true rfl)⟩ rfl rfl ⟨(show cells + 1 ≤ 601024 by omega), (show slots + 6 ≤ 7293034 by omega)⟩ dL_law_1172 (fun H locs hP hS => ?_)
  refine lv_iload hx hb dL_law_1175 (lv_at hl 1 rfl) ?_
  refine lv_icmp_eq (tgt := 1182) hx hb dL_law_1177 (by decide) (fun _ => ?_) (fun q => absurd rfl q)
  refine lv_iload hx hb dL_law_1182 (lv_at hl 1 rfl) ?_
  refine lv_if_ne (tgt := 1199) hx hb dL_law_1184 (by decide) (fun _ => ?_) (fun hk0 => ?_)
  · refine lv_goto (tgt := 1474) hx hb dL_law_1199 (by decide) ?_
    refine W.widen (k := cells + 31) (n := slots + 260) (by omega) (by omega) ?_
    have hl := lv_sub hl (l' := [(0, .ref b), (1, .ref (ad 0)), (2, .ref (ad 221)), (3, .ref (ad 230)), (4, .int (nI i))]) [2, 3, 4, 5, 6] rfl
    rw [h0, h1, h2] at hl
    exact nx _ _ _ _ _ _ hP hS ⟨C2, M2, _, _, hT2.kept hF2 (fun z q1 q2 => by unfold zCl at q1; dsimp only [zRg] at q2; omega), ⟨az, kn, lo, dg, hM3⟩, hO2.kept hF2 (by dsimp only [zRg]; omega), hAG2⟩ h0 h1 h2 hl
  · have hk : k = 0 := (nI_eq (by omega) (by decide)).mp (hk0.trans nI_0.symm)
    have hrv := hr hk
    have hwv := hw hk
    have hO3 := hO2.kept hF2 (by dsimp only [zRg]; omega)
    obtain ⟨hO4, f, hO5, hO6⟩ := id hO3
    refine lv_aload_n hx hb dL_law_1187 rfl (lv_at hl 5 rfl) ?_
    refine lv_iconst (v := 0) hx hb dL_law_1188 (by decide) ?_
    refine z_lald C0 hP hO4 hO5 (zIx_of nI_0.symm (by decide) (by decide)) dL_law_1189 ?_
    refine lv_iload hx hb dL_law_1190 (lv_at hl 0 rfl) ?_
    refine lv_i2l (v := Int32.toInt64 r) hx hb dL_law_1192 rfl ?_
    refine W.lcmp hx hb dL_law_1193 ?_
    refine lv_if_eq (tgt := 1199) hx hb dL_law_1194 (by decide) (fun _ => ?_) (fun q => absurd ((lg_cmp_eq _ _).mpr (hO6.trans (hwv.trans (congrArg Int32.toInt64 hrv.symm)))) q)
    refine lv_goto (tgt := 1474) hx hb dL_law_1199 (by decide) ?_
    refine W.widen (k := cells + 31) (n := slots + 260) (by omega) (by omega) ?_
    have hl := lv_sub hl (l' := [(0, .ref b), (1, .ref (ad 0)), (2, .ref (ad 221)), (3, .ref (ad 230)), (4, .int (nI i))]) [2, 3, 4, 5, 6] rfl
    rw [h0, h1, h2] at hl
    exact nx _ _ _ _ _ _ hP hS ⟨C2, M2, _, _, hT2.kept hF2 (fun z q1 q2 => by unfold zCl at q1; dsimp only [zRg] at q2; omega), ⟨az, kn, lo, dg, hM3⟩, hO2.kept hF2 (by dsimp only [zRg]; omega), hAG2⟩ h0 h1 h2 hl
set_option maxHeartbeats 1000000 in
theorem lc_whyNot (hfl : l.stackTraces = false) (F : lwF p s m c meth b L xs D cy) {i cells slots : Nat} (hi : i + 4 ≤ L) (hc : cells + 31 ≤ 601024) (hs : slots + 260 ≤ 7293034) (nx : lwG p l e s m below meth c b D cy a0 a1 a2 1474 i (cells + 31) (slots + 260)) : lwG p l e s m below meth c b D cy a0 a1 a2 1202 i cells slots := by
  intro K ad g H locs ls hP hS hI h0 h1 h2 hl
  obtain ⟨C, M, th, w, hT, hM, hO, hAG⟩ := hI
  obtain ⟨C0, hTh, hNc, hN, hX, hbl, hL⟩ := F
  have hx := C0.1; have hb := C0.2.1
  have hbA : ¬ s.heap.size ≤ b := Nat.not_le.mpr hbl
  rw [← h0, ← h1, ← h2] at hl
  obtain ⟨fs1, hfs1⟩ := hT.rc
  obtain ⟨k, v, C2, M2, hk3, hAG2, hW, rm, ⟨r1, r2, r3, r4⟩, hMM⟩ := op_whyNot l hfl hAG (xs (nI (i + 1)).toNatClampNeg) (xs (nI (i + 2)).toNatClampNeg)
  refine lv_aload_n hx hb dL_law_1202 rfl (lv_at hl 1 rfl) ?_
  refine lv_aload_n hx hb dL_law_1203 rfl (lv_at hl 0 rfl) ?_
  refine lv_iload hx hb dL_law_1204 (lv_at hl 4 rfl) ?_
  refine lv_iconst (v := 1) hx hb dL_law_1206 (by decide) ?_
  refine lv_iadd hx hb dL_law_1207 ?_
  refine z_topi (y := nI (i + 1)) (nI_add i 1) ?_
  refine va_sld hx hb hX hbl hbA hS (vp_in_nI (by omega) (by omega)) dL_law_1208 ?_
  refine lv_aload_n hx hb dL_law_1209 rfl (lv_at hl 0 rfl) ?_
  refine lv_iload hx hb dL_law_1210 (lv_at hl 4 rfl) ?_
  refine lv_iconst (v := 2) hx hb dL_law_1212 (by decide) ?_
  refine lv_iadd hx hb dL_law_1213 ?_
  refine z_topi (y := nI (i + 2)) (nI_add i 2) ?_
  refine va_sld hx hb hX hbl hbA hS (vp_in_nI (by omega) (by omega)) dL_law_1214 ?_
  refine lv_aload_n hx hb dL_law_1215 rfl (lv_at hl 3 rfl) ?_
  refine z_calli C0 hP hS (z_runSW (As := [.ref (ad 0), .int (xs (nI (i + 1)).toNatClampNeg), .int (xs (nI (i + 2)).toNatClampNeg), .ref (ad 230)]) (rest := []) C0 hTh hNc hP hS hl.1 (hW _ hT hO) lh_whyNot rfl rfl (Nat.le_of_ble_eq_true rfl) rfl rfl ⟨(Nat.le_of_ble_eq_true rfl), (Nat.le_of_ble_eq_true rfl)⟩ ⟨(show cells + 1 ≤ 601024 by omega), (show slots + 6 ≤ 7293034 by omega)⟩ dL_law_1216) (fun r g1 H locs hP hS hp => ?_)
  obtain ⟨hr, hT2, ⟨w2, hO2, hw⟩, hF⟩ := hp
  subst hr
  have hM := hM.kept hF (fun z q1 q2 => by unfold zClO zCl; omega)
  refine lv_istore (lv' := [(5, .int (nI k)), (0, .ref b), (1, .ref (ad 0)), (2, .ref (ad 221)), (3, .ref (ad 230)), (4, .int (nI i))]) hx hb dL_law_1219 hl (by decide) rfl (fun ls hl => ?_)
  obtain ⟨fs2, hfs2⟩ := hM.rc
  refine lv_aload_n hx hb dL_law_1221 rfl (lv_at hl 3 rfl) ?_
  refine lv_aload_n hx hb dL_law_1222 rfl (lv_at hl 1 rfl) ?_
  refine lv_iload hx hb dL_law_1223 (lv_at hl 5 rfl) ?_
  refine lv_iconst (v := 1) hx hb dL_law_1225 (by decide) ?_
  refine lv_iadd hx hb dL_law_1226 ?_
  refine z_topi (y := nI (i + 1)) (nI_add i 1) ?_
  refine va_sld hx hb hX hbl hbA hS (vp_in_nI (by omega) (by omega)) dL_law_1227 ?_
  refine lv_aload_n hx hb dL_law_1228 rfl (lv_at hl 1 rfl) ?_
  refine lv_iload hx hb dL_law_1229 (lv_at hl 5 rfl) ?_
  refine lv_iconst (v := 2) hx hb dL_law_1231 (by decide) ?_
  refine lv_iadd hx hb dL_law_1232 ?_
  refine z_topi (y := nI (i + 2)) (nI_add i 2) ?_
  refine va_sld hx hb hX hbl hbA hS (vp_in_nI (by omega) (by omega)) dL_law_1233 ?_
  refine z_Vi_mo (As := [.int (xs (nI (i + 1)).toNatClampNeg), .int (xs (nI (i + 2)).toNatClampNeg)]) (rest := []) C0 hP hS hl.1 (hMM _ hM) lk_L_153 hM.n0 hfs2 rfl rfl (Nat.le_of_ble_eq_true rfl) ⟨(show rm.frames + 1 ≤ 2048 by omega), (show 8 + (_ + 11) + rm.locals ≤ 84000 by omega)⟩ r1 r2 ⟨(show cells + 1 ≤ 601024 by omega), (show slots + 6 ≤ 7293034 by omega)⟩ dL_law_1234 (fun r g2 H locs hP hS hp => ?_)
  obtain ⟨hr, hM2, hF2⟩ := hp
  refine lv_istore (lv' := [(6, .int r), (5, .int (nI k)), (0, .ref b), (1, .ref (ad 0)), (2, .ref (ad 221)), (3, .ref (ad 230)), (4, .int (nI i))]) hx hb dL_law_1237 hl (by decide) rfl (fun ls hl => ?_)
  refine lv_aload_n hx hb dL_law_1239 rfl (lv_at hl 4 rfl) ?_
  obtain ⟨az, kn, lo, dg, hM3⟩ := hM2
  refine z_Vi_eq (As := []) (rest := []) C0 hP hS hl.1 (m_X5_thrown l _ hM3) lk_L_89 hM3.n0 hM3.o rfl rfl (Nat.le_of_ble_eq_true rfl) ⟨(Nat.le_of_ble_eq_true rfl), (Nat.le_of_ble_eq_true rfl)⟩ rfl rfl ⟨(show cells + 1 ≤ 601024 by omega), (show slots + 6 ≤ 7293034 by omega)⟩ dL_law_1240 (fun H locs hP hS => ?_)
  refine lv_iload hx hb dL_law_1243 (lv_at hl 1 rfl) ?_
  refine lv_icmp_eq (tgt := 1250) hx hb dL_law_1245 (by decide) (fun _ => ?_) (fun q => absurd rfl q)
  refine lv_iload hx hb dL_law_1250 (lv_at hl 1 rfl) ?_
  refine lv_if_ne (tgt := 1267) hx hb dL_law_1252 (by decide) (fun _ => ?_) (fun hk0 => ?_)
  · refine lv_goto (tgt := 1474) hx hb dL_law_1267 (by decide) ?_
    refine W.widen (k := cells + 31) (n := slots + 260) (by omega) (by omega) ?_
    have hl := lv_sub hl (l' := [(0, .ref b), (1, .ref (ad 0)), (2, .ref (ad 221)), (3, .ref (ad 230)), (4, .int (nI i))]) [2, 3, 4, 5, 6] rfl
    rw [h0, h1, h2] at hl
    exact nx _ _ _ _ _ _ hP hS ⟨C2, M2, _, _, hT2.kept hF2 (fun z q1 q2 => by unfold zCl at q1; dsimp only [zRg] at q2; omega), ⟨az, kn, lo, dg, hM3⟩, hO2.kept hF2 (by dsimp only [zRg]; omega), hAG2⟩ h0 h1 h2 hl
  · have hk : k = 0 := (nI_eq (by omega) (by decide)).mp (hk0.trans nI_0.symm)
    have hrv := hr hk
    have hwv := hw hk
    have hO3 := hO2.kept hF2 (by dsimp only [zRg]; omega)
    obtain ⟨hO4, f, hO5, hO6⟩ := id hO3
    refine lv_aload_n hx hb dL_law_1255 rfl (lv_at hl 5 rfl) ?_
    refine lv_iconst (v := 0) hx hb dL_law_1256 (by decide) ?_
    refine z_lald C0 hP hO4 hO5 (zIx_of nI_0.symm (by decide) (by decide)) dL_law_1257 ?_
    refine lv_iload hx hb dL_law_1258 (lv_at hl 0 rfl) ?_
    refine lv_i2l (v := Int32.toInt64 r) hx hb dL_law_1260 rfl ?_
    refine W.lcmp hx hb dL_law_1261 ?_
    refine lv_if_eq (tgt := 1267) hx hb dL_law_1262 (by decide) (fun _ => ?_) (fun q => absurd ((lg_cmp_eq _ _).mpr (hO6.trans (hwv.trans (congrArg Int32.toInt64 hrv.symm)))) q)
    refine lv_goto (tgt := 1474) hx hb dL_law_1267 (by decide) ?_
    refine W.widen (k := cells + 31) (n := slots + 260) (by omega) (by omega) ?_
    have hl := lv_sub hl (l' := [(0, .ref b), (1, .ref (ad 0)), (2, .ref (ad 221)), (3, .ref (ad 230)), (4, .int (nI i))]) [2, 3, 4, 5, 6] rfl
    rw [h0, h1, h2] at hl
    exact nx _ _ _ _ _ _ hP hS ⟨C2, M2, _, _, hT2.kept hF2 (fun z q1 q2 => by unfold zCl at q1; dsimp only [zRg] at q2; omega), ⟨az, kn, lo, dg, hM3⟩, hO2.kept hF2 (by dsimp only [zRg]; omega), hAG2⟩ h0 h1 h2 hl
set_option maxHeartbeats 1000000 in
theorem lc_howOften (hfl : l.stackTraces = false) (F : lwF p s m c meth b L xs D cy) {i cells slots : Nat} (hi : i + 4 ≤ L) (hc : cells + 31 ≤ 601024) (hs : slots + 260 ≤ 7293034) (nx : lwG p l e s m below meth c b D cy a0 a1 a2 1474 i (cells + 31) (slots + 260)) : lwG p l e s m below meth c b D cy a0 a1 a2 1270 i cells slots := by
  intro K ad g H locs ls hP hS hI h0 h1 h2 hl
  obtain ⟨C, M, th, w, hT, hM, hO, hAG⟩ := hI
  obtain ⟨C0, hTh, hNc, hN, hX, hbl, hL⟩ := F
  have hx := C0.1; have hb := C0.2.1
  have hbA : ¬ s.heap.size ≤ b := Nat.not_le.mpr hbl
  rw [← h0, ← h1, ← h2] at hl
  obtain ⟨fs1, hfs1⟩ := hT.rc
  obtain ⟨k, v, C2, M2, hk3, hAG2, hW, rm, ⟨r1, r2, r3, r4⟩, hMM⟩ := op_howOften l hfl hAG (xs (nI (i + 1)).toNatClampNeg) (xs (nI (i + 2)).toNatClampNeg)
  refine lv_aload_n hx hb dL_law_1270 rfl (lv_at hl 1 rfl) ?_
  refine lv_aload_n hx hb dL_law_1271 rfl (lv_at hl 0 rfl) ?_
  refine lv_iload hx hb dL_law_1272 (lv_at hl 4 rfl) ?_
  refine lv_iconst (v := 1) hx hb dL_law_1274 (by decide) ?_
  refine lv_iadd hx hb dL_law_1275 ?_
  refine z_topi (y := nI (i + 1)) (nI_add i 1) ?_
  refine va_sld hx hb hX hbl hbA hS (vp_in_nI (by omega) (by omega)) dL_law_1276 ?_
  refine lv_aload_n hx hb dL_law_1277 rfl (lv_at hl 0 rfl) ?_
  refine lv_iload hx hb dL_law_1278 (lv_at hl 4 rfl) ?_
  refine lv_iconst (v := 2) hx hb dL_law_1280 (by decide) ?_
  refine lv_iadd hx hb dL_law_1281 ?_
  refine z_topi (y := nI (i + 2)) (nI_add i 2) ?_
  refine va_sld hx hb hX hbl hbA hS (vp_in_nI (by omega) (by omega)) dL_law_1282 ?_
  refine lv_aload_n hx hb dL_law_1283 rfl (lv_at hl 3 rfl) ?_
  refine z_calli C0 hP hS (z_runSW (As := [.ref (ad 0), .int (xs (nI (i + 1)).toNatClampNeg), .int (xs (nI (i + 2)).toNatClampNeg), .ref (ad 230)]) (rest := []) C0 hTh hNc hP hS hl.1 (hW _ hT hO) lh_howOften rfl rfl (Nat.le_of_ble_eq_true rfl) rfl rfl ⟨(Nat.le_of_ble_eq_true rfl), (Nat.le_of_ble_eq_true rfl)⟩ ⟨(show cells + 1 ≤ 601024 by omega), (show slots + 6 ≤ 7293034 by omega)⟩ dL_law_1284) (fun r g1 H locs hP hS hp => ?_)
  obtain ⟨hr, hT2, ⟨w2, hO2, hw⟩, hF⟩ := hp
  subst hr
  have hM := hM.kept hF (fun z q1 q2 => by unfold zClO zCl; omega)
  refine lv_istore (lv' := [(5, .int (nI k)), (0, .ref b), (1, .ref (ad 0)), (2, .ref (ad 221)), (3, .ref (ad 230)), (4, .int (nI i))]) hx hb dL_law_1287 hl (by decide) rfl (fun ls hl => ?_)
  obtain ⟨fs2, hfs2⟩ := hM.rc
  refine lv_aload_n hx hb dL_law_1289 rfl (lv_at hl 3 rfl) ?_
  refine lv_aload_n hx hb dL_law_1290 rfl (lv_at hl 1 rfl) ?_
  refine lv_iload hx hb dL_law_1291 (lv_at hl 5 rfl) ?_
  refine lv_iconst (v := 1) hx hb dL_law_1293 (by decide) ?_
  refine lv_iadd hx hb dL_law_1294 ?_
  refine z_topi (y := nI (i + 1)) (nI_add i 1) ?_
  refine va_sld hx hb hX hbl hbA hS (vp_in_nI (by omega) (by omega)) dL_law_1295 ?_
  refine lv_aload_n hx hb dL_law_1296 rfl (lv_at hl 1 rfl) ?_
  refine lv_iload hx hb dL_law_1297 (lv_at hl 5 rfl) ?_
  refine lv_iconst (v := 2) hx hb dL_law_1299 (by decide) ?_
  refine lv_iadd hx hb dL_law_1300 ?_
  refine z_topi (y := nI (i + 2)) (nI_add i 2) ?_
  refine va_sld hx hb hX hbl hbA hS (vp_in_nI (by omega) (by omega)) dL_law_1301 ?_
  refine z_Vi_mo (As := [.int (xs (nI (i + 1)).toNatClampNeg), .int (xs (nI (i + 2)).toNatClampNeg)]) (rest := []) C0 hP hS hl.1 (hMM _ hM) lk_L_156 hM.n0 hfs2 rfl rfl (Nat.le_of_ble_eq_true rfl) ⟨(show rm.frames + 1 ≤ 2048 by omega), (show 8 + (_ + 11) + rm.locals ≤ 84000 by omega)⟩ r1 r2 ⟨(show cells + 1 ≤ 601024 by omega), (show slots + 6 ≤ 7293034 by omega)⟩ dL_law_1302 (fun r g2 H locs hP hS hp => ?_)
  obtain ⟨hr, hM2, hF2⟩ := hp
  refine lv_istore (lv' := [(6, .int r), (5, .int (nI k)), (0, .ref b), (1, .ref (ad 0)), (2, .ref (ad 221)), (3, .ref (ad 230)), (4, .int (nI i))]) hx hb dL_law_1305 hl (by decide) rfl (fun ls hl => ?_)
  refine lv_aload_n hx hb dL_law_1307 rfl (lv_at hl 4 rfl) ?_
  obtain ⟨az, kn, lo, dg, hM3⟩ := hM2
  refine z_Vi_eq (As := []) (rest := []) C0 hP hS hl.1 (m_X5_thrown l _ hM3) lk_L_89 hM3.n0 hM3.o rfl rfl (Nat.le_of_ble_eq_true rfl) ⟨(Nat.le_of_ble_eq_true rfl), (Nat.le_of_ble_eq_true rfl)⟩ rfl rfl ⟨(show cells + 1 ≤ 601024 by omega), (show slots + 6 ≤ 7293034 by omega)⟩ dL_law_1308 (fun H locs hP hS => ?_)
  refine lv_iload hx hb dL_law_1311 (lv_at hl 1 rfl) ?_
  refine lv_icmp_eq (tgt := 1318) hx hb dL_law_1313 (by decide) (fun _ => ?_) (fun q => absurd rfl q)
  refine lv_iload hx hb dL_law_1318 (lv_at hl 1 rfl) ?_
  refine lv_if_ne (tgt := 1335) hx hb dL_law_1320 (by decide) (fun _ => ?_) (fun hk0 => ?_)
  · refine lv_goto (tgt := 1474) hx hb dL_law_1335 (by decide) ?_
    refine W.widen (k := cells + 31) (n := slots + 260) (by omega) (by omega) ?_
    have hl := lv_sub hl (l' := [(0, .ref b), (1, .ref (ad 0)), (2, .ref (ad 221)), (3, .ref (ad 230)), (4, .int (nI i))]) [2, 3, 4, 5, 6] rfl
    rw [h0, h1, h2] at hl
    exact nx _ _ _ _ _ _ hP hS ⟨C2, M2, _, _, hT2.kept hF2 (fun z q1 q2 => by unfold zCl at q1; dsimp only [zRg] at q2; omega), ⟨az, kn, lo, dg, hM3⟩, hO2.kept hF2 (by dsimp only [zRg]; omega), hAG2⟩ h0 h1 h2 hl
  · have hk : k = 0 := (nI_eq (by omega) (by decide)).mp (hk0.trans nI_0.symm)
    have hrv := hr hk
    have hwv := hw hk
    have hO3 := hO2.kept hF2 (by dsimp only [zRg]; omega)
    obtain ⟨hO4, f, hO5, hO6⟩ := id hO3
    refine lv_aload_n hx hb dL_law_1323 rfl (lv_at hl 5 rfl) ?_
    refine lv_iconst (v := 0) hx hb dL_law_1324 (by decide) ?_
    refine z_lald C0 hP hO4 hO5 (zIx_of nI_0.symm (by decide) (by decide)) dL_law_1325 ?_
    refine lv_iload hx hb dL_law_1326 (lv_at hl 0 rfl) ?_
    refine lv_i2l (v := Int32.toInt64 r) hx hb dL_law_1328 rfl ?_
    refine W.lcmp hx hb dL_law_1329 ?_
    refine lv_if_eq (tgt := 1335) hx hb dL_law_1330 (by decide) (fun _ => ?_) (fun q => absurd ((lg_cmp_eq _ _).mpr (hO6.trans (hwv.trans (congrArg Int32.toInt64 hrv.symm)))) q)
    refine lv_goto (tgt := 1474) hx hb dL_law_1335 (by decide) ?_
    refine W.widen (k := cells + 31) (n := slots + 260) (by omega) (by omega) ?_
    have hl := lv_sub hl (l' := [(0, .ref b), (1, .ref (ad 0)), (2, .ref (ad 221)), (3, .ref (ad 230)), (4, .int (nI i))]) [2, 3, 4, 5, 6] rfl
    rw [h0, h1, h2] at hl
    exact nx _ _ _ _ _ _ hP hS ⟨C2, M2, _, _, hT2.kept hF2 (fun z q1 q2 => by unfold zCl at q1; dsimp only [zRg] at q2; omega), ⟨az, kn, lo, dg, hM3⟩, hO2.kept hF2 (by dsimp only [zRg]; omega), hAG2⟩ h0 h1 h2 hl
set_option maxHeartbeats 1000000 in
theorem lc_cordsFor (hfl : l.stackTraces = false) (F : lwF p s m c meth b L xs D cy) {i cells slots : Nat} (hi : i + 4 ≤ L) (hc : cells + 31 ≤ 601024) (hs : slots + 260 ≤ 7293034) (nx : lwG p l e s m below meth c b D cy a0 a1 a2 1474 i (cells + 31) (slots + 260)) : lwG p l e s m below meth c b D cy a0 a1 a2 1338 i cells slots := by
  intro K ad g H locs ls hP hS hI h0 h1 h2 hl
  obtain ⟨C, M, th, w, hT, hM, hO, hAG⟩ := hI
  obtain ⟨C0, hTh, hNc, hN, hX, hbl, hL⟩ := F
  have hx := C0.1; have hb := C0.2.1
  have hbA : ¬ s.heap.size ≤ b := Nat.not_le.mpr hbl
  rw [← h0, ← h1, ← h2] at hl
  obtain ⟨fs1, hfs1⟩ := hT.rc
  obtain ⟨k, v, C2, M2, hk3, hAG2, hW, rm, ⟨r1, r2, r3, r4⟩, hMM⟩ := op_cordsFor l hfl hAG (xs (nI (i + 1)).toNatClampNeg) (xs (nI (i + 2)).toNatClampNeg)
  refine lv_aload_n hx hb dL_law_1338 rfl (lv_at hl 1 rfl) ?_
  refine lv_aload_n hx hb dL_law_1339 rfl (lv_at hl 0 rfl) ?_
  refine lv_iload hx hb dL_law_1340 (lv_at hl 4 rfl) ?_
  refine lv_iconst (v := 1) hx hb dL_law_1342 (by decide) ?_
  refine lv_iadd hx hb dL_law_1343 ?_
  refine z_topi (y := nI (i + 1)) (nI_add i 1) ?_
  refine va_sld hx hb hX hbl hbA hS (vp_in_nI (by omega) (by omega)) dL_law_1344 ?_
  refine lv_aload_n hx hb dL_law_1345 rfl (lv_at hl 0 rfl) ?_
  refine lv_iload hx hb dL_law_1346 (lv_at hl 4 rfl) ?_
  refine lv_iconst (v := 2) hx hb dL_law_1348 (by decide) ?_
  refine lv_iadd hx hb dL_law_1349 ?_
  refine z_topi (y := nI (i + 2)) (nI_add i 2) ?_
  refine va_sld hx hb hX hbl hbA hS (vp_in_nI (by omega) (by omega)) dL_law_1350 ?_
  refine lv_aload_n hx hb dL_law_1351 rfl (lv_at hl 3 rfl) ?_
  refine z_calli C0 hP hS (z_runSW (As := [.ref (ad 0), .int (xs (nI (i + 1)).toNatClampNeg), .int (xs (nI (i + 2)).toNatClampNeg), .ref (ad 230)]) (rest := []) C0 hTh hNc hP hS hl.1 (hW _ hT hO) lh_cordsFor rfl rfl (Nat.le_of_ble_eq_true rfl) rfl rfl ⟨(Nat.le_of_ble_eq_true rfl), (Nat.le_of_ble_eq_true rfl)⟩ ⟨(show cells + 1 ≤ 601024 by omega), (show slots + 6 ≤ 7293034 by omega)⟩ dL_law_1352) (fun r g1 H locs hP hS hp => ?_)
  obtain ⟨hr, hT2, ⟨w2, hO2, hw⟩, hF⟩ := hp
  subst hr
  have hM := hM.kept hF (fun z q1 q2 => by unfold zClO zCl; omega)
  refine lv_istore (lv' := [(5, .int (nI k)), (0, .ref b), (1, .ref (ad 0)), (2, .ref (ad 221)), (3, .ref (ad 230)), (4, .int (nI i))]) hx hb dL_law_1355 hl (by decide) rfl (fun ls hl => ?_)
  obtain ⟨fs2, hfs2⟩ := hM.rc
  refine lv_aload_n hx hb dL_law_1357 rfl (lv_at hl 3 rfl) ?_
  refine lv_aload_n hx hb dL_law_1358 rfl (lv_at hl 1 rfl) ?_
  refine lv_iload hx hb dL_law_1359 (lv_at hl 5 rfl) ?_
  refine lv_iconst (v := 1) hx hb dL_law_1361 (by decide) ?_
  refine lv_iadd hx hb dL_law_1362 ?_
  refine z_topi (y := nI (i + 1)) (nI_add i 1) ?_
  refine va_sld hx hb hX hbl hbA hS (vp_in_nI (by omega) (by omega)) dL_law_1363 ?_
  refine lv_aload_n hx hb dL_law_1364 rfl (lv_at hl 1 rfl) ?_
  refine lv_iload hx hb dL_law_1365 (lv_at hl 5 rfl) ?_
  refine lv_iconst (v := 2) hx hb dL_law_1367 (by decide) ?_
  refine lv_iadd hx hb dL_law_1368 ?_
  refine z_topi (y := nI (i + 2)) (nI_add i 2) ?_
  refine va_sld hx hb hX hbl hbA hS (vp_in_nI (by omega) (by omega)) dL_law_1369 ?_
  refine z_Vi_mo (As := [.int (xs (nI (i + 1)).toNatClampNeg), .int (xs (nI (i + 2)).toNatClampNeg)]) (rest := []) C0 hP hS hl.1 (hMM _ hM) lk_L_159 hM.n0 hfs2 rfl rfl (Nat.le_of_ble_eq_true rfl) ⟨(show rm.frames + 1 ≤ 2048 by omega), (show 8 + (_ + 11) + rm.locals ≤ 84000 by omega)⟩ r1 r2 ⟨(show cells + 1 ≤ 601024 by omega), (show slots + 6 ≤ 7293034 by omega)⟩ dL_law_1370 (fun r g2 H locs hP hS hp => ?_)
  obtain ⟨hr, hM2, hF2⟩ := hp
  refine lv_istore (lv' := [(6, .int r), (5, .int (nI k)), (0, .ref b), (1, .ref (ad 0)), (2, .ref (ad 221)), (3, .ref (ad 230)), (4, .int (nI i))]) hx hb dL_law_1373 hl (by decide) rfl (fun ls hl => ?_)
  refine lv_aload_n hx hb dL_law_1375 rfl (lv_at hl 4 rfl) ?_
  obtain ⟨az, kn, lo, dg, hM3⟩ := hM2
  refine z_Vi_eq (As := []) (rest := []) C0 hP hS hl.1 (m_X5_thrown l _ hM3) lk_L_89 hM3.n0 hM3.o rfl rfl (Nat.le_of_ble_eq_true rfl) ⟨(Nat.le_of_ble_eq_true rfl), (Nat.le_of_ble_eq_true rfl)⟩ rfl rfl ⟨(show cells + 1 ≤ 601024 by omega), (show slots + 6 ≤ 7293034 by omega)⟩ dL_law_1376 (fun H locs hP hS => ?_)
  refine lv_iload hx hb dL_law_1379 (lv_at hl 1 rfl) ?_
  refine lv_icmp_eq (tgt := 1386) hx hb dL_law_1381 (by decide) (fun _ => ?_) (fun q => absurd rfl q)
  refine lv_iload hx hb dL_law_1386 (lv_at hl 1 rfl) ?_
  refine lv_if_ne (tgt := 1403) hx hb dL_law_1388 (by decide) (fun _ => ?_) (fun hk0 => ?_)
  · refine lv_goto (tgt := 1474) hx hb dL_law_1403 (by decide) ?_
    refine W.widen (k := cells + 31) (n := slots + 260) (by omega) (by omega) ?_
    have hl := lv_sub hl (l' := [(0, .ref b), (1, .ref (ad 0)), (2, .ref (ad 221)), (3, .ref (ad 230)), (4, .int (nI i))]) [2, 3, 4, 5, 6] rfl
    rw [h0, h1, h2] at hl
    exact nx _ _ _ _ _ _ hP hS ⟨C2, M2, _, _, hT2.kept hF2 (fun z q1 q2 => by unfold zCl at q1; dsimp only [zRg] at q2; omega), ⟨az, kn, lo, dg, hM3⟩, hO2.kept hF2 (by dsimp only [zRg]; omega), hAG2⟩ h0 h1 h2 hl
  · have hk : k = 0 := (nI_eq (by omega) (by decide)).mp (hk0.trans nI_0.symm)
    have hrv := hr hk
    have hwv := hw hk
    have hO3 := hO2.kept hF2 (by dsimp only [zRg]; omega)
    obtain ⟨hO4, f, hO5, hO6⟩ := id hO3
    refine lv_aload_n hx hb dL_law_1391 rfl (lv_at hl 5 rfl) ?_
    refine lv_iconst (v := 0) hx hb dL_law_1392 (by decide) ?_
    refine z_lald C0 hP hO4 hO5 (zIx_of nI_0.symm (by decide) (by decide)) dL_law_1393 ?_
    refine lv_iload hx hb dL_law_1394 (lv_at hl 0 rfl) ?_
    refine lv_i2l (v := Int32.toInt64 r) hx hb dL_law_1396 rfl ?_
    refine W.lcmp hx hb dL_law_1397 ?_
    refine lv_if_eq (tgt := 1403) hx hb dL_law_1398 (by decide) (fun _ => ?_) (fun q => absurd ((lg_cmp_eq _ _).mpr (hO6.trans (hwv.trans (congrArg Int32.toInt64 hrv.symm)))) q)
    refine lv_goto (tgt := 1474) hx hb dL_law_1403 (by decide) ?_
    refine W.widen (k := cells + 31) (n := slots + 260) (by omega) (by omega) ?_
    have hl := lv_sub hl (l' := [(0, .ref b), (1, .ref (ad 0)), (2, .ref (ad 221)), (3, .ref (ad 230)), (4, .int (nI i))]) [2, 3, 4, 5, 6] rfl
    rw [h0, h1, h2] at hl
    exact nx _ _ _ _ _ _ hP hS ⟨C2, M2, _, _, hT2.kept hF2 (fun z q1 q2 => by unfold zCl at q1; dsimp only [zRg] at q2; omega), ⟨az, kn, lo, dg, hM3⟩, hO2.kept hF2 (by dsimp only [zRg]; omega), hAG2⟩ h0 h1 h2 hl
set_option maxHeartbeats 1000000 in
theorem lc_fullest (hfl : l.stackTraces = false) (F : lwF p s m c meth b L xs D cy) {i cells slots : Nat} (hi : i + 4 ≤ L) (hc : cells + 31 ≤ 601024) (hs : slots + 260 ≤ 7293034) (nx : lwG p l e s m below meth c b D cy a0 a1 a2 1474 i (cells + 31) (slots + 260)) : lwG p l e s m below meth c b D cy a0 a1 a2 1406 i cells slots := by
  intro K ad g H locs ls hP hS hI h0 h1 h2 hl
  obtain ⟨C, M, th, w, hT, hM, hO, hAG⟩ := hI
  obtain ⟨C0, hTh, hNc, hN, hX, hbl, hL⟩ := F
  have hx := C0.1; have hb := C0.2.1
  have hbA : ¬ s.heap.size ≤ b := Nat.not_le.mpr hbl
  rw [← h0, ← h1, ← h2] at hl
  obtain ⟨fs1, hfs1⟩ := hT.rc
  obtain ⟨v, C2, M2, hAG2, hW, hMM⟩ := op_fullest l hAG
  refine lv_aload_n hx hb dL_law_1406 rfl (lv_at hl 1 rfl) ?_
  refine z_Vi_mo (As := []) (rest := []) C0 hP hS hl.1 (hW _ hT) lk_L_160 hT.n0 hfs1 rfl rfl (Nat.le_of_ble_eq_true rfl) ⟨(Nat.le_of_ble_eq_true rfl), (Nat.le_of_ble_eq_true rfl)⟩ rfl rfl ⟨(show cells ≤ 601024 by omega), (show slots ≤ 7293034 by omega)⟩ dL_law_1407 (fun r g1 H locs hP hS hp => ?_)
  obtain ⟨hr, hT2, hF⟩ := hp
  subst hr
  have hM := hM.kept hF (fun z q1 q2 => by unfold zCl; omega)
  have hO2 := hO.kept hF (by unfold zCl; omega)
  obtain ⟨fs2, hfs2⟩ := hM.rc
  refine lv_aload_n hx hb dL_law_1410 rfl (lv_at hl 2 rfl) ?_
  refine z_Vi_mo (As := []) (rest := [.int r]) C0 hP hS hl.1 (hMM _ hM) lk_L_163 hM.n0 hfs2 rfl rfl (Nat.le_of_ble_eq_true rfl) ⟨(Nat.le_of_ble_eq_true rfl), (Nat.le_of_ble_eq_true rfl)⟩ rfl rfl ⟨(show cells ≤ 601024 by omega), (show slots ≤ 7293034 by omega)⟩ dL_law_1411 (fun r2 g2 H locs hP hS hp => ?_)
  obtain ⟨hr2, hM2, hF2⟩ := hp
  subst hr2
  refine lv_icmp_eq (tgt := 1474) hx hb dL_law_1414 (by decide) (fun _ => ?_) (fun q => absurd rfl q)
  refine W.widen (k := cells + 31) (n := slots + 260) (by omega) (by omega) ?_
  have hl := lv_sub hl (l' := [(0, .ref b), (1, .ref (ad 0)), (2, .ref (ad 221)), (3, .ref (ad 230)), (4, .int (nI i))]) [0, 1, 2, 3, 4] rfl
  rw [h0, h1, h2] at hl
  exact nx _ _ _ _ _ _ hP hS ⟨C2, M2, _, _, hT2.kept hF2 (fun z q1 q2 => by unfold zCl at q1; dsimp only [zRg] at q2; omega), hM2, hO2.kept hF2 (by dsimp only [zRg]; omega), hAG2⟩ h0 h1 h2 hl
set_option maxHeartbeats 1000000 in
theorem lc_closedShare (hfl : l.stackTraces = false) (F : lwF p s m c meth b L xs D cy) {i cells slots : Nat} (hi : i + 4 ≤ L) (hc : cells + 31 ≤ 601024) (hs : slots + 260 ≤ 7293034) (nx : lwG p l e s m below meth c b D cy a0 a1 a2 1474 i (cells + 31) (slots + 260)) : lwG p l e s m below meth c b D cy a0 a1 a2 1419 i cells slots := by
  intro K ad g H locs ls hP hS hI h0 h1 h2 hl
  obtain ⟨C, M, th, w, hT, hM, hO, hAG⟩ := hI
  obtain ⟨C0, hTh, hNc, hN, hX, hbl, hL⟩ := F
  have hx := C0.1; have hb := C0.2.1
  have hbA : ¬ s.heap.size ≤ b := Nat.not_le.mpr hbl
  rw [← h0, ← h1, ← h2] at hl
  obtain ⟨fs1, hfs1⟩ := hT.rc
  obtain ⟨v, C2, M2, hAG2, hW, hMM⟩ := op_closedShare l hAG
  refine lv_aload_n hx hb dL_law_1419 rfl (lv_at hl 1 rfl) ?_
  refine z_Vd_mo (As := []) (rest := []) C0 hP hS hl.1 (hW _ hT) lk_L_164 hT.n0 hfs1 rfl rfl (Nat.le_of_ble_eq_true rfl) ⟨(Nat.le_of_ble_eq_true rfl), (Nat.le_of_ble_eq_true rfl)⟩ rfl rfl ⟨(show cells ≤ 601024 by omega), (show slots ≤ 7293034 by omega)⟩ dL_law_1420 (fun r g1 H locs hP hS hp => ?_)
  obtain ⟨hr, hT2, hF⟩ := hp
  subst hr
  have hM := hM.kept hF (fun z q1 q2 => by unfold zCl; omega)
  have hO2 := hO.kept hF (by unfold zCl; omega)
  obtain ⟨fs2, hfs2⟩ := hM.rc
  refine lv_dstore (lv' := [(5, .double r), (0, .ref b), (1, .ref (ad 0)), (2, .ref (ad 221)), (3, .ref (ad 230)), (4, .int (nI i))]) hx hb dL_law_1423 hl (by decide) rfl (fun ls hl => ?_)
  refine lv_aload_n hx hb dL_law_1425 rfl (lv_at hl 3 rfl) ?_
  refine z_Vd_mo (As := []) (rest := []) C0 hP hS hl.1 (hMM _ hM) lk_L_168 hM.n0 hfs2 rfl rfl (Nat.le_of_ble_eq_true rfl) ⟨(Nat.le_of_ble_eq_true rfl), (Nat.le_of_ble_eq_true rfl)⟩ rfl rfl ⟨(show cells ≤ 601024 by omega), (show slots ≤ 7293034 by omega)⟩ dL_law_1426 (fun r2 g2 H locs hP hS hp => ?_)
  obtain ⟨hr2, hM2, hF2⟩ := hp
  subst hr2
  refine lv_dstore (lv' := [(7, .double r2), (5, .double r2), (0, .ref b), (1, .ref (ad 0)), (2, .ref (ad 221)), (3, .ref (ad 230)), (4, .int (nI i))]) hx hb dL_law_1429 hl (by decide) rfl (fun ls hl => ?_)
  refine lv_dload hx hb dL_law_1431 (lv_at hl 1 rfl) ?_
  refine lv_dload hx hb dL_law_1433 (lv_at hl 0 rfl) ?_
  refine lv_dcmp hx hb dL_law_1435 ?_
  refine lv_if_eq (tgt := 1457) hx hb dL_law_1436 (by decide) (fun _ => ?_) (fun hne => ?_)
  · refine lv_goto (tgt := 1474) hx hb dL_law_1457 (by decide) ?_
    refine W.widen (k := cells + 31) (n := slots + 260) (by omega) (by omega) ?_
    have hl := lv_sub hl (l' := [(0, .ref b), (1, .ref (ad 0)), (2, .ref (ad 221)), (3, .ref (ad 230)), (4, .int (nI i))]) [2, 3, 4, 5, 6] rfl
    rw [h0, h1, h2] at hl
    exact nx _ _ _ _ _ _ hP hS ⟨C2, M2, _, _, hT2.kept hF2 (fun z q1 q2 => by unfold zCl at q1; dsimp only [zRg] at q2; omega), hM2, hO2.kept hF2 (by dsimp only [zRg]; omega), hAG2⟩ h0 h1 h2 hl
  · refine lv_dload hx hb dL_law_1439 (lv_at hl 1 rfl) ?_
    refine lv_dload hx hb dL_law_1441 (lv_at hl 1 rfl) ?_
    refine lv_dcmp hx hb dL_law_1443 ?_
    refine lv_if_eq (tgt := 1455) hx hb dL_law_1444 (by decide) (fun q => absurd q hne) (fun _ => ?_)
    refine lv_dload hx hb dL_law_1447 (lv_at hl 0 rfl) ?_
    refine lv_dload hx hb dL_law_1449 (lv_at hl 0 rfl) ?_
    refine lv_dcmp hx hb dL_law_1451 ?_
    refine lv_if_ne (tgt := 1457) hx hb dL_law_1452 (by decide) (fun _ => ?_) (fun q => absurd q hne)
    refine lv_goto (tgt := 1474) hx hb dL_law_1457 (by decide) ?_
    refine W.widen (k := cells + 31) (n := slots + 260) (by omega) (by omega) ?_
    have hl := lv_sub hl (l' := [(0, .ref b), (1, .ref (ad 0)), (2, .ref (ad 221)), (3, .ref (ad 230)), (4, .int (nI i))]) [2, 3, 4, 5, 6] rfl
    rw [h0, h1, h2] at hl
    exact nx _ _ _ _ _ _ hP hS ⟨C2, M2, _, _, hT2.kept hF2 (fun z q1 q2 => by unfold zCl at q1; dsimp only [zRg] at q2; omega), hM2, hO2.kept hF2 (by dsimp only [zRg]; omega), hAG2⟩ h0 h1 h2 hl
set_option maxHeartbeats 1000000 in
theorem lc_digest (hfl : l.stackTraces = false) (F : lwF p s m c meth b L xs D cy) {i cells slots : Nat} (hi : i + 4 ≤ L) (hc : cells + 31 ≤ 601024) (hs : slots + 260 ≤ 7293034) (nx : lwG p l e s m below meth c b D cy a0 a1 a2 1474 i (cells + 31) (slots + 260)) : lwG p l e s m below meth c b D cy a0 a1 a2 1460 i cells slots := by
  intro K ad g H locs ls hP hS hI h0 h1 h2 hl
  obtain ⟨C, M, th, w, hT, hM, hO, hAG⟩ := hI
  obtain ⟨C0, hTh, hNc, hN, hX, hbl, hL⟩ := F
  have hx := C0.1; have hb := C0.2.1
  have hbA : ¬ s.heap.size ≤ b := Nat.not_le.mpr hbl
  rw [← h0, ← h1, ← h2] at hl
  obtain ⟨fs1, hfs1⟩ := hT.rc
  obtain ⟨v, C2, M2, hAG2, hW, hMM⟩ := op_digest l hAG
  refine lv_aload_n hx hb dL_law_1460 rfl (lv_at hl 1 rfl) ?_
  refine z_Vl_mo (As := []) (rest := []) C0 hP hS hl.1 (hW _ hT) lk_L_169 hT.n0 hfs1 rfl rfl (Nat.le_of_ble_eq_true rfl) ⟨(Nat.le_of_ble_eq_true rfl), (Nat.le_of_ble_eq_true rfl)⟩ rfl rfl ⟨(show cells ≤ 601024 by omega), (show slots ≤ 7293034 by omega)⟩ dL_law_1461 (fun r g1 H locs hP hS hp => ?_)
  obtain ⟨hr, hT2, hF⟩ := hp
  subst hr
  have hM := hM.kept hF (fun z q1 q2 => by unfold zCl; omega)
  have hO2 := hO.kept hF (by unfold zCl; omega)
  obtain ⟨fs2, hfs2⟩ := hM.rc
  refine lv_aload_n hx hb dL_law_1464 rfl (lv_at hl 2 rfl) ?_
  refine z_Vl_mo (As := []) (rest := [.long r]) C0 hP hS hl.1 (hMM _ hM) lk_L_173 hM.n0 hfs2 rfl rfl (Nat.le_of_ble_eq_true rfl) ⟨(Nat.le_of_ble_eq_true rfl), (Nat.le_of_ble_eq_true rfl)⟩ rfl rfl ⟨(show cells ≤ 601024 by omega), (show slots ≤ 7293034 by omega)⟩ dL_law_1465 (fun r2 g2 H locs hP hS hp => ?_)
  obtain ⟨hr2, hM2, hF2⟩ := hp
  subst hr2
  refine W.lcmp hx hb dL_law_1468 ?_
  refine lv_if_eq (tgt := 1474) hx hb dL_law_1469 (by decide) (fun _ => ?_) (fun q => absurd ((lg_cmp_eq _ _).mpr rfl) q)
  refine W.widen (k := cells + 31) (n := slots + 260) (by omega) (by omega) ?_
  have hl := lv_sub hl (l' := [(0, .ref b), (1, .ref (ad 0)), (2, .ref (ad 221)), (3, .ref (ad 230)), (4, .int (nI i))]) [0, 1, 2, 3, 4] rfl
  rw [h0, h1, h2] at hl
  exact nx _ _ _ _ _ _ hP hS ⟨C2, M2, _, _, hT2.kept hF2 (fun z q1 q2 => by unfold zCl at q1; dsimp only [zRg] at q2; omega), hM2, hO2.kept hF2 (by dsimp only [zRg]; omega), hAG2⟩ h0 h1 h2 hl
end ZLC
