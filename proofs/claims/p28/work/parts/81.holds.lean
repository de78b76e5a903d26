set_option maxHeartbeats 4000000 in
set_option maxRecDepth 100000 in
theorem m_L_holds (l : Launch) {D : va_G} {cy : Nat → ClassId} {K : Nat} {ad : Nat → Nat} {g : Nat → va_E} (sz : Nat) {st : Nat → Int32} {sv : Nat → Nat → Int32} {nx sz2 : Nat} {ns : Nat → Option Nat} {ss : Nat → Nat → Int32} {bu : Nat → Int32} {ln : Nat} {tz : Nat} {xz : Int32} (hTT : isT cy K ad g st sv nx sz2 ns ss bu ln) (hI : pI tz st) : Met l yL_holds (zs yL_holds cL_holds 15 (some .boolean)) ({ frames := 12, cells := 0, slots := 0, locals := 342 } : Room) (va_Pc [.ref (ad 0), .int xz] (zIn D cy K ad g sz)) (va_Qi (fun r g1 => r = 1 ∧ isT cy K ad g1 st sv nx sz2 ns ss bu ln ∧ zFr zCl g g1) (zOut D cy K ad sz) (zA K ad sz)) 0 0 (zA K ad sz) := by
  refine z_met (by decide) (Nat.le_of_ble_eq_true rfl) (fun p e s m below meth c ls hsz hl C0 hr hnm hP hS => ?_)
  subst hsz
  have hl : lv_has ls 15 [(0, .ref (ad 0)), (1, .int xz)] := hl
  have hx := C0.1; have hb := C0.2.1; have hown := C0.2.2.2.1; have hts := C0.2.2.2.2.1
  have hFr : zFr (zCl) g g := zFr.rf
  refine lv_iconst (v := 0) hx hb dL_holds_0 (by decide) ?_
  refine z_topi (y := sumN (cTold st) 0) rfl ?_
  refine lv_istore_n (lv' := [(2, .int (sumN (cTold st) 0)), (0, .ref (ad 0)), (1, .int xz)]) hx hb dL_holds_1 rfl hl (by decide) rfl (fun ls hl => ?_)
  refine lv_iconst (v := 0) hx hb dL_holds_2 (by decide) ?_
  refine z_topi (y := sumN (cTies st) 0) rfl ?_
  refine lv_istore_n (lv' := [(3, .int (sumN (cTies st) 0)), (2, .int (sumN (cTold st) 0)), (0, .ref (ad 0)), (1, .int xz)]) hx hb dL_holds_3 rfl hl (by decide) rfl (fun ls hl => ?_)
  refine lv_iconst (v := 0) hx hb dL_holds_4 (by decide) ?_
  refine z_topi (y := sumN (allL st) 0) rfl ?_
  refine lv_istore (lv' := [(4, .int (sumN (allL st) 0)), (3, .int (sumN (cTies st) 0)), (2, .int (sumN (cTold st) 0)), (0, .ref (ad 0)), (1, .int xz)]) hx hb dL_holds_5 hl (by decide) rfl (fun ls hl => ?_)
  refine lv_iconst (v := 0) hx hb dL_holds_7 (by decide) ?_
  refine z_topi (y := sumN (lackN st) 0) rfl ?_
  refine lv_istore (lv' := [(5, .int (sumN (lackN st) 0)), (4, .int (sumN (allL st) 0)), (3, .int (sumN (cTies st) 0)), (2, .int (sumN (cTold st) 0)), (0, .ref (ad 0)), (1, .int xz)]) hx hb dL_holds_8 hl (by decide) rfl (fun ls hl => ?_)
  refine lv_iconst (v := 0) hx hb dL_holds_10 (by decide) ?_
  refine z_topi (y := sumN (fun z => sumN (hueN st (nI z)) 7) 0) rfl ?_
  refine lv_istore (lv' := [(6, .int (sumN (fun z => sumN (hueN st (nI z)) 7) 0)), (5, .int (sumN (lackN st) 0)), (4, .int (sumN (allL st) 0)), (3, .int (sumN (cTies st) 0)), (2, .int (sumN (cTold st) 0)), (0, .ref (ad 0)), (1, .int xz)]) hx hb dL_holds_11 hl (by decide) rfl (fun ls hl => ?_)
  refine lv_iconst (v := (nI 0)) hx hb dL_holds_13 (by decide) ?_
  refine z_topi (y := nI (fuW st 0)) rfl ?_
  refine lv_istore (lv' := [(7, .int (nI (fuW st 0))), (6, .int (sumN (fun z => sumN (hueN st (nI z)) 7) 0)), (5, .int (sumN (lackN st) 0)), (4, .int (sumN (allL st) 0)), (3, .int (sumN (cTies st) 0)), (2, .int (sumN (cTold st) 0)), (0, .ref (ad 0)), (1, .int xz)]) hx hb dL_holds_14 hl (by decide) rfl (fun ls hl => ?_)
  refine lv_iconst (v := 1) hx hb dL_holds_16 (by decide) ?_
  refine lv_istore (lv' := [(8, .int 1), (7, .int (nI (fuW st 0))), (6, .int (sumN (fun z => sumN (hueN st (nI z)) 7) 0)), (5, .int (sumN (lackN st) 0)), (4, .int (sumN (allL st) 0)), (3, .int (sumN (cTies st) 0)), (2, .int (sumN (cTold st) 0)), (0, .ref (ad 0)), (1, .int xz)]) hx hb dL_holds_17 hl (by decide) rfl (fun ls hl => ?_)
  refine lv_iconst (v := (nI 0)) hx hb dL_holds_19 (by decide) ?_
  refine lv_istore (lv' := [(9, .int (nI 0)), (8, .int 1), (7, .int (nI (fuW st 0))), (6, .int (sumN (fun z => sumN (hueN st (nI z)) 7) 0)), (5, .int (sumN (lackN st) 0)), (4, .int (sumN (allL st) 0)), (3, .int (sumN (cTies st) 0)), (2, .int (sumN (cTold st) 0)), (0, .ref (ad 0)), (1, .int xz)]) hx hb dL_holds_20 hl (by decide) rfl (fun ls hl => ?_)
  have lp_22 : ∀ (N : Nat) (cz : Nat) (hk : cz ≤ 7), 7 - cz < N → ∀ (H : Heap) (locs : List Loc) (ls : Array Slot), zP D K ad g (zA K ad s.heap.size) H → va_S (zA K ad s.heap.size) s.heap H locs → lv_has ls 15 [(0, .ref (ad 0)), (1, .int xz), (2, .int (sumN (cTold st) cz)), (3, .int (sumN (cTies st) cz)), (4, .int (sumN (allL st) cz)), (5, .int (sumN (lackN st) cz)), (6, .int (sumN (fun z => sumN (hueN st (nI z)) 7) 0)), (7, .int (nI (fuW st cz))), (8, .int 1), (9, .int (nI cz))] → W p l e ({ frames := 12, cells := 0, slots := 0, locals := 342 } : Room) s m [.ref (ad 0), .int xz].toArray below meth c H locs 0 0 (MQ below (va_Qi (fun r g1 => r = 1 ∧ isT cy K ad g1 st sv nx sz2 ns ss bu ln ∧ zFr zCl g g1) (zOut D cy K ad s.heap.size) (zA K ad s.heap.size)) [.ref (ad 0), .int xz].toArray s 0 0 (zA K ad s.heap.size)) (F0 m 22 ls []) := by
    intro N
    induction N with
    | zero => intro cz hk hN; exact absurd hN (Nat.not_lt_zero _)
    | succ N ih_22 =>
      intro cz hk hN H locs ls hP hS  hl
      refine lv_iload hx hb dL_holds_22 (lv_at hl 9 rfl) ?_
      refine lv_bipush (v := 7) hx hb dL_holds_24 (by decide) ?_
      refine lv_icmp_ge (tgt := 126) hx hb dL_holds_26 (by decide) (fun c_26 => ?_) (fun c_26 => ?_)
      · have hk2 : cz = 7 := by have := z_ge_t (b := 7) c_26 (by omega) (by omega); omega
        subst hk2
        refine lv_iconst (v := (nI 0)) hx hb dL_holds_126 (by decide) ?_
        refine lv_istore (lv' := [(9, .int (nI 0)), (0, .ref (ad 0)), (1, .int xz), (2, .int (sumN (cTold st) 7)), (3, .int (sumN (cTies st) 7)), (4, .int (sumN (allL st) 7)), (5, .int (sumN (lackN st) 7)), (6, .int (sumN (fun z => sumN (hueN st (nI z)) 7) 0)), (7, .int (nI (fuW st 7))), (8, .int 1)]) hx hb dL_holds_127 hl (by decide) rfl (fun ls hl => ?_)
        have lp_129 : ∀ (N : Nat) (hz : Nat) (hk : hz ≤ 6), 6 - hz < N → ∀ (H : Heap) (locs : List Loc) (ls : Array Slot), zP D K ad g (zA K ad s.heap.size) H → va_S (zA K ad s.heap.size) s.heap H locs → lv_has ls 15 [(0, .ref (ad 0)), (1, .int xz), (2, .int (sumN (cTold st) 7)), (3, .int (sumN (cTies st) 7)), (4, .int (sumN (allL st) 7)), (5, .int (sumN (lackN st) 7)), (6, .int (sumN (fun z => sumN (hueN st (nI z)) 7) hz)), (7, .int (nI (fuW st 7))), (8, .int 1), (9, .int (nI hz))] → W p l e ({ frames := 12, cells := 0, slots := 0, locals := 342 } : Room) s m [.ref (ad 0), .int xz].toArray below meth c H locs 0 0 (MQ below (va_Qi (fun r g1 => r = 1 ∧ isT cy K ad g1 st sv nx sz2 ns ss bu ln ∧ zFr zCl g g1) (zOut D cy K ad s.heap.size) (zA K ad s.heap.size)) [.ref (ad 0), .int xz].toArray s 0 0 (zA K ad s.heap.size)) (F0 m 129 ls []) := by
          intro N
          induction N with
          | zero => intro hz hk hN; exact absurd hN (Nat.not_lt_zero _)
          | succ N ih_129 =>
            intro hz hk hN H locs ls hP hS  hl
            refine lv_iload hx hb dL_holds_129 (lv_at hl 9 rfl) ?_
            refine lv_bipush (v := 6) hx hb dL_holds_131 (by decide) ?_
            refine lv_icmp_ge (tgt := 153) hx hb dL_holds_133 (by decide) (fun c_133 => ?_) (fun c_133 => ?_)
            · have hk2 : hz = 6 := by have := z_ge_t (b := 6) c_133 (by omega) (by omega); omega
              subst hk2
              refine lv_iload hx hb dL_holds_153 (lv_at hl 8 rfl) ?_
              refine lv_if_eq (tgt := 233) hx hb dL_holds_155 (by decide) (fun c_155 => absurd c_155 (by decide)) (fun c_155 => ?_)
              refine lv_iload_n hx hb dL_holds_158 rfl (lv_at hl 2 rfl) ?_
              refine lv_aload_n hx hb dL_holds_159 rfl (lv_at hl 0 rfl) ?_
              refine lv_iconst (v := (nI 0)) hx hb dL_holds_160 (by decide) ?_
              obtain ⟨fs_161, hfs_161⟩ := hTT.rc
              refine z_Vi_eq (As := [.int (nI 0)]) (rest := [.int (sumN (cTold st) 7)]) C0 hP hS hl.1 (m_X4_count l _ hTT (by decide) hI.pc) lk_L_20 hTT.n0 hfs_161 rfl rfl (Nat.le_of_ble_eq_true rfl) ⟨Nat.le_of_ble_eq_true rfl, Nat.le_of_ble_eq_true rfl⟩ rfl rfl ⟨Nat.zero_le _, Nat.zero_le _⟩ dL_holds_161 (fun H locs hP hS => ?_)
              refine lv_icmp_ne (tgt := 233) hx hb dL_holds_164 (by decide) (fun c_164 => absurd rfl c_164) (fun c_164 => ?_)
              refine lv_iload_n hx hb dL_holds_167 rfl (lv_at hl 3 rfl) ?_
              refine lv_aload_n hx hb dL_holds_168 rfl (lv_at hl 0 rfl) ?_
              refine lv_iconst (v := (nI 1)) hx hb dL_holds_169 (by decide) ?_
              obtain ⟨fs_170, hfs_170⟩ := hTT.rc
              refine z_Vi_eq (As := [.int (nI 1)]) (rest := [.int (sumN (cTies st) 7)]) C0 hP hS hl.1 (m_X4_count l _ hTT (by decide) hI.pc) lk_L_20 hTT.n0 hfs_170 rfl rfl (Nat.le_of_ble_eq_true rfl) ⟨Nat.le_of_ble_eq_true rfl, Nat.le_of_ble_eq_true rfl⟩ rfl rfl ⟨Nat.zero_le _, Nat.zero_le _⟩ dL_holds_170 (fun H locs hP hS => ?_)
              refine lv_icmp_ne (tgt := 233) hx hb dL_holds_173 (by decide) (fun c_173 => absurd (ties_all st).symm c_173) (fun c_173 => ?_)
              refine lv_iload hx hb dL_holds_176 (lv_at hl 5 rfl) ?_
              refine lv_aload_n hx hb dL_holds_178 rfl (lv_at hl 0 rfl) ?_
              refine lv_bipush (v := (nI 7)) hx hb dL_holds_179 (by decide) ?_
              obtain ⟨fs_181, hfs_181⟩ := hTT.rc
              refine z_Vi_eq (As := [.int (nI 7)]) (rest := [.int (sumN (lackN st) 7)]) C0 hP hS hl.1 (m_X4_count l _ hTT (by decide) hI.pc) lk_L_20 hTT.n0 hfs_181 rfl rfl (Nat.le_of_ble_eq_true rfl) ⟨Nat.le_of_ble_eq_true rfl, Nat.le_of_ble_eq_true rfl⟩ rfl rfl ⟨Nat.zero_le _, Nat.zero_le _⟩ dL_holds_181 (fun H locs hP hS => ?_)
              refine lv_icmp_ne (tgt := 233) hx hb dL_holds_184 (by decide) (fun c_184 => absurd rfl c_184) (fun c_184 => ?_)
              refine lv_iload hx hb dL_holds_187 (lv_at hl 6 rfl) ?_
              refine lv_iload_n hx hb dL_holds_189 rfl (lv_at hl 2 rfl) ?_
              refine lv_icmp_ne (tgt := 233) hx hb dL_holds_190 (by decide) (fun c_190 => absurd (hues_all hI.2.1) c_190) (fun c_190 => ?_)
              refine lv_iload hx hb dL_holds_193 (lv_at hl 7 rfl) ?_
              refine lv_aload_n hx hb dL_holds_195 rfl (lv_at hl 0 rfl) ?_
              obtain ⟨fs_196, hfs_196⟩ := hTT.rc
              refine z_Vi_eq (As := []) (rest := [.int (nI (fuW st 7))]) C0 hP hS hl.1 (m_X4_fullest l _ hTT) lk_L_73 hTT.n0 hfs_196 rfl rfl (Nat.le_of_ble_eq_true rfl) ⟨Nat.le_of_ble_eq_true rfl, Nat.le_of_ble_eq_true rfl⟩ rfl rfl ⟨Nat.zero_le _, Nat.zero_le _⟩ dL_holds_196 (fun H locs hP hS => ?_)
              refine lv_icmp_ne (tgt := 233) hx hb dL_holds_199 (by decide) (fun c_199 => absurd rfl c_199) (fun c_199 => ?_)
              refine lv_aload_n hx hb dL_holds_202 rfl (lv_at hl 0 rfl) ?_
              refine lv_iconst (v := (nI 2)) hx hb dL_holds_203 (by decide) ?_
              obtain ⟨fs_204, hfs_204⟩ := hTT.rc
              refine z_Vi_eq (As := [.int (nI 2)]) (rest := []) C0 hP hS hl.1 (m_X4_count l _ hTT (by decide) hI.pc) lk_L_20 hTT.n0 hfs_204 rfl rfl (Nat.le_of_ble_eq_true rfl) ⟨Nat.le_of_ble_eq_true rfl, Nat.le_of_ble_eq_true rfl⟩ rfl rfl ⟨Nat.zero_le _, Nat.zero_le _⟩ dL_holds_204 (fun H locs hP hS => ?_)
              refine lv_aload_n hx hb dL_holds_207 rfl (lv_at hl 0 rfl) ?_
              refine lv_iconst (v := (nI 3)) hx hb dL_holds_208 (by decide) ?_
              obtain ⟨fs_209, hfs_209⟩ := hTT.rc
              refine z_Vi_eq (As := [.int (nI 3)]) (rest := [.int (countF st sz2 2)]) C0 hP hS hl.1 (m_X4_count l _ hTT (by decide) hI.pc) lk_L_20 hTT.n0 hfs_209 rfl rfl (Nat.le_of_ble_eq_true rfl) ⟨Nat.le_of_ble_eq_true rfl, Nat.le_of_ble_eq_true rfl⟩ rfl rfl ⟨Nat.zero_le _, Nat.zero_le _⟩ dL_holds_209 (fun H locs hP hS => ?_)
              refine lv_iadd hx hb dL_holds_212 ?_
              refine lv_iload_n hx hb dL_holds_213 rfl (lv_at hl 3 rfl) ?_
              refine lv_aload_n hx hb dL_holds_214 rfl (lv_at hl 0 rfl) ?_
              refine lv_iconst (v := (nI 4)) hx hb dL_holds_215 (by decide) ?_
              obtain ⟨fs_216, hfs_216⟩ := hTT.rc
              refine z_Vi_eq (As := [.int (nI 4)]) (rest := [.int (sumN (cTies st) 7), .int ((countF st sz2 2) + (countF st sz2 3))]) C0 hP hS hl.1 (m_X4_count l _ hTT (by decide) hI.pc) lk_L_20 hTT.n0 hfs_216 rfl rfl (Nat.le_of_ble_eq_true rfl) ⟨Nat.le_of_ble_eq_true rfl, Nat.le_of_ble_eq_true rfl⟩ rfl rfl ⟨Nat.zero_le _, Nat.zero_le _⟩ dL_holds_216 (fun H locs hP hS => ?_)
              refine lv_iadd hx hb dL_holds_219 ?_
              refine lv_aload_n hx hb dL_holds_220 rfl (lv_at hl 0 rfl) ?_
              refine lv_iconst (v := (nI 5)) hx hb dL_holds_221 (by decide) ?_
              obtain ⟨fs_222, hfs_222⟩ := hTT.rc
              refine z_Vi_eq (As := [.int (nI 5)]) (rest := [.int ((sumN (cTies st) 7) + (countF st sz2 4)), .int ((countF st sz2 2) + (countF st sz2 3))]) C0 hP hS hl.1 (m_X4_count l _ hTT (by decide) hI.pc) lk_L_20 hTT.n0 hfs_222 rfl rfl (Nat.le_of_ble_eq_true rfl) ⟨Nat.le_of_ble_eq_true rfl, Nat.le_of_ble_eq_true rfl⟩ rfl rfl ⟨Nat.zero_le _, Nat.zero_le _⟩ dL_holds_222 (fun H locs hP hS => ?_)
              refine lv_iadd hx hb dL_holds_225 ?_
              refine lv_icmp_ne (tgt := 233) hx hb dL_holds_226 (by decide) (fun c_226 => absurd hI.2.2.1 c_226) (fun c_226 => ?_)
              refine lv_iconst (v := 1) hx hb dL_holds_229 (by decide) ?_
              refine lv_goto (tgt := 234) hx hb dL_holds_230 (by decide) ?_
              refine lv_istore (lv' := [(8, .int 1), (0, .ref (ad 0)), (1, .int xz), (2, .int (sumN (cTold st) 7)), (3, .int (sumN (cTies st) 7)), (4, .int (sumN (allL st) 7)), (5, .int (sumN (lackN st) 7)), (6, .int (sumN (fun z => sumN (hueN st (nI z)) 7) 6)), (7, .int (nI (fuW st 7))), (9, .int (nI 6))]) hx hb dL_holds_234 hl (by decide) rfl (fun ls hl => ?_)
              refine lv_iload hx hb dL_holds_236 (lv_at hl 0 rfl) ?_
              refine lv_if_eq (tgt := 275) hx hb dL_holds_238 (by decide) (fun c_238 => absurd c_238 (by decide)) (fun c_238 => ?_)
              refine lv_aload_n hx hb dL_holds_241 rfl (lv_at hl 1 rfl) ?_
              obtain ⟨fs_242, hfs_242⟩ := hTT.rc
              refine z_Vd_eq (As := []) (rest := []) C0 hP hS hl.1 (m_X4_closedShare l _ hTT) lk_L_77 hTT.n0 hfs_242 rfl rfl (Nat.le_of_ble_eq_true rfl) ⟨Nat.le_of_ble_eq_true rfl, Nat.le_of_ble_eq_true rfl⟩ rfl rfl ⟨Nat.zero_le _, Nat.zero_le _⟩ dL_holds_242 (fun H locs hP hS => ?_)
              refine lv_iload_n hx hb dL_holds_245 rfl (lv_at hl 4 rfl) ?_
              refine lv_iload hx hb dL_holds_246 (lv_at hl 5 rfl) ?_
              refine lv_icmp_ne (tgt := 255) hx hb dL_holds_248 (by decide) (fun c_248 => ?_) (fun c_248 => ?_)
              · refine lv_bipush (v := 10) hx hb dL_holds_255 (by decide) ?_
                refine lv_iload hx hb dL_holds_257 (lv_at hl 5 rfl) ?_
                refine lv_imul hx hb dL_holds_259 ?_
                refine lv_i2d hx hb dL_holds_260 ?_
                refine lv_iload_n hx hb dL_holds_261 rfl (lv_at hl 4 rfl) ?_
                refine lv_iload hx hb dL_holds_262 (lv_at hl 5 rfl) ?_
                refine lv_isub hx hb dL_holds_264 ?_
                refine lv_i2d hx hb dL_holds_265 ?_
                refine lv_ddiv hx hb dL_holds_266 (n64_of (div_ok (sh_T c_248).1)) ?_
                refine lv_dcmp hx hb dL_holds_267 ?_
                refine lv_if_ne (tgt := 275) hx hb dL_holds_268 (by decide) (fun c_268 => absurd (cmp_rf ((sh_T c_248).2) (sha_ok _ _)) c_268) (fun c_268 => ?_)
                refine lv_iconst (v := 1) hx hb dL_holds_271 (by decide) ?_
                refine lv_goto (tgt := 276) hx hb dL_holds_272 (by decide) ?_
                refine lv_istore (lv' := [(8, .int 1), (0, .ref (ad 0)), (1, .int xz), (2, .int (sumN (cTold st) 7)), (3, .int (sumN (cTies st) 7)), (4, .int (sumN (allL st) 7)), (5, .int (sumN (lackN st) 7)), (6, .int (sumN (fun z => sumN (hueN st (nI z)) 7) 6)), (7, .int (nI (fuW st 7))), (9, .int (nI 6))]) hx hb dL_holds_276 hl (by decide) rfl (fun ls hl => ?_)
                refine lv_iconst (v := 1) hx hb dL_holds_278 (by decide) ?_
                refine lv_iload_n hx hb dL_holds_279 rfl (lv_at hl 2 rfl) ?_
                refine lv_bipush (v := (nI 127)) hx hb dL_holds_280 (by decide) ?_
                refine z_Si_eq (As := [.int xz, .int (nI 127)]) (rest := [.int 1]) C0 hP hS hl.1 (m_L_low l _ (by decide) (by decide)) lk_L_9 rfl rfl (Nat.le_of_ble_eq_true rfl) ⟨Nat.le_of_ble_eq_true rfl, Nat.le_of_ble_eq_true rfl⟩ rfl rfl ⟨Nat.zero_le _, Nat.zero_le _⟩ dL_holds_282 (fun H locs hP hS => ?_)
                refine lv_iadd hx hb dL_holds_285 ?_
                obtain ⟨k7, hk7, ek7⟩ := low1 xz (n := 127) (by decide) (by decide)
                refine z_topi (y := nI (k7 + 1)) ek7 ?_
                refine lv_istore (lv' := [(9, .int (nI (k7 + 1))), (8, .int 1), (0, .ref (ad 0)), (1, .int xz), (2, .int (sumN (cTold st) 7)), (3, .int (sumN (cTies st) 7)), (4, .int (sumN (allL st) 7)), (5, .int (sumN (lackN st) 7)), (6, .int (sumN (fun z => sumN (hueN st (nI z)) 7) 6)), (7, .int (nI (fuW st 7)))]) hx hb dL_holds_286 hl (by decide) rfl (fun ls hl => ?_)
                refine lv_iconst (v := 0) hx hb dL_holds_288 (by decide) ?_
                refine z_topi (y := setT (cTold st) (nI (k7 + 1)) 0) rfl ?_
                refine lv_istore (lv' := [(10, .int (setT (cTold st) (nI (k7 + 1)) 0)), (9, .int (nI (k7 + 1))), (8, .int 1), (0, .ref (ad 0)), (1, .int xz), (2, .int (sumN (cTold st) 7)), (3, .int (sumN (cTies st) 7)), (4, .int (sumN (allL st) 7)), (5, .int (sumN (lackN st) 7)), (6, .int (sumN (fun z => sumN (hueN st (nI z)) 7) 6)), (7, .int (nI (fuW st 7)))]) hx hb dL_holds_289 hl (by decide) rfl (fun ls hl => ?_)
                refine lv_iconst (v := (nI 0)) hx hb dL_holds_291 (by decide) ?_
                refine lv_istore (lv' := [(11, .int (nI 0)), (10, .int (setT (cTold st) (nI (k7 + 1)) 0)), (9, .int (nI (k7 + 1))), (8, .int 1), (0, .ref (ad 0)), (1, .int xz), (2, .int (sumN (cTold st) 7)), (3, .int (sumN (cTies st) 7)), (4, .int (sumN (allL st) 7)), (5, .int (sumN (lackN st) 7)), (6, .int (sumN (fun z => sumN (hueN st (nI z)) 7) 6)), (7, .int (nI (fuW st 7)))]) hx hb dL_holds_292 hl (by decide) rfl (fun ls hl => ?_)
                have lp_294 : ∀ (N : Nat) (cz : Nat) (hk : cz ≤ 7), 7 - cz < N → ∀ (H : Heap) (locs : List Loc) (ls : Array Slot), zP D K ad g (zA K ad s.heap.size) H → va_S (zA K ad s.heap.size) s.heap H locs → lv_has ls 15 [(0, .ref (ad 0)), (1, .int xz), (8, .int 1), (9, .int (nI (k7 + 1))), (10, .int (setT (cTold st) (nI (k7 + 1)) cz)), (11, .int (nI cz))] → W p l e ({ frames := 12, cells := 0, slots := 0, locals := 342 } : Room) s m [.ref (ad 0), .int xz].toArray below meth c H locs 0 0 (MQ below (va_Qi (fun r g1 => r = 1 ∧ isT cy K ad g1 st sv nx sz2 ns ss bu ln ∧ zFr zCl g g1) (zOut D cy K ad s.heap.size) (zA K ad s.heap.size)) [.ref (ad 0), .int xz].toArray s 0 0 (zA K ad s.heap.size)) (F0 m 294 ls []) := by
                  intro N
                  induction N with
                  | zero => intro cz hk hN; exact absurd hN (Nat.not_lt_zero _)
                  | succ N ih_294 =>
                    intro cz hk hN H locs ls hP hS  hl
                    refine lv_iload hx hb dL_holds_294 (lv_at hl 5 rfl) ?_
                    refine lv_bipush (v := 7) hx hb dL_holds_296 (by decide) ?_
                    refine lv_icmp_ge (tgt := 334) hx hb dL_holds_298 (by decide) (fun c_298 => ?_) (fun c_298 => ?_)
                    · have hk2 : cz = 7 := by have := z_ge_t (b := 7) c_298 (by omega) (by omega); omega
                      subst hk2
                      refine lv_iload hx hb dL_holds_334 (lv_at hl 4 rfl) ?_
                      refine lv_if_eq (tgt := 349) hx hb dL_holds_336 (by decide) (fun c_336 => ?_) (fun c_336 => ?_)
                      · refine lv_iconst (v := 1) hx hb dL_holds_349 (by decide) ?_
                        refine lv_iload_n hx hb dL_holds_350 rfl (lv_at hl 1 rfl) ?_
                        refine lv_bipush (v := 7) hx hb dL_holds_351 (by decide) ?_
                        refine lv_ishr hx hb dL_holds_353 ?_
                        refine lv_sipush (v := (nI 2000)) hx hb dL_holds_354 (by decide) ?_
                        refine z_Si_eq (As := [.int (xz >>> (7 &&& 31)), .int (nI 2000)]) (rest := [.int 1]) C0 hP hS hl.1 (m_L_low l _ (by decide) (by decide)) lk_L_9 rfl rfl (Nat.le_of_ble_eq_true rfl) ⟨Nat.le_of_ble_eq_true rfl, Nat.le_of_ble_eq_true rfl⟩ rfl rfl ⟨Nat.zero_le _, Nat.zero_le _⟩ dL_holds_357 (fun H locs hP hS => ?_)
                        refine lv_iadd hx hb dL_holds_360 ?_
                        refine lv_goto (tgt := 366) hx hb dL_holds_361 (by decide) ?_
                        obtain ⟨k8, hk8, ek8⟩ := low1 (xz >>> ((7 : Int32) &&& 31)) (n := 2000) (by decide) (by decide)
                        obtain ⟨sm, hsm⟩ : ∃ sm : Int32, (1 : Int32) + lowF (xz >>> ((7 : Int32) &&& 31)) 2000 = sm := ⟨_, rfl⟩
                        have hs1 : ¬ sm < 1 := by rw [← hsm, ek8]; exact (sum_ok2 hk8).1
                        have hs2 : sm ≤ 9999999 := by rw [← hsm, ek8]; exact (sum_ok2 hk8).2
                        refine z_topi (y := sm) hsm ?_
                        refine lv_istore (lv' := [(10, .int sm), (0, .ref (ad 0)), (1, .int xz), (8, .int 1), (9, .int (nI (k7 + 1))), (11, .int (nI 7))]) hx hb dL_holds_366 hl (by decide) rfl (fun ls hl => ?_)
                        refine lv_iconst (v := (-1)) hx hb dL_holds_368 (by decide) ?_
                        refine z_topi (y := sfF st sm 0) rfl ?_
                        refine lv_istore (lv' := [(11, .int (sfF st sm 0)), (10, .int sm), (0, .ref (ad 0)), (1, .int xz), (8, .int 1), (9, .int (nI (k7 + 1)))]) hx hb dL_holds_369 hl (by decide) rfl (fun ls hl => ?_)
                        refine lv_iconst (v := (nI (0 + 1))) hx hb dL_holds_371 (by decide) ?_
                        refine lv_istore (lv' := [(12, .int (nI (0 + 1))), (11, .int (sfF st sm 0)), (10, .int sm), (0, .ref (ad 0)), (1, .int xz), (8, .int 1), (9, .int (nI (k7 + 1)))]) hx hb dL_holds_372 hl (by decide) rfl (fun ls hl => ?_)
                        have lp_374 : ∀ (N : Nat) (kz : Nat) (hk : kz ≤ 127), 127 - kz < N → ∀ (H : Heap) (locs : List Loc) (ls : Array Slot), zP D K ad g (zA K ad s.heap.size) H → va_S (zA K ad s.heap.size) s.heap H locs → lv_has ls 15 [(0, .ref (ad 0)), (1, .int xz), (8, .int 1), (10, .int sm), (11, .int (sfF st sm kz)), (12, .int (nI (kz + 1)))] → W p l e ({ frames := 12, cells := 0, slots := 0, locals := 342 } : Room) s m [.ref (ad 0), .int xz].toArray below meth c H locs 0 0 (MQ below (va_Qi (fun r g1 => r = 1 ∧ isT cy K ad g1 st sv nx sz2 ns ss bu ln ∧ zFr zCl g g1) (zOut D cy K ad s.heap.size) (zA K ad s.heap.size)) [.ref (ad 0), .int xz].toArray s 0 0 (zA K ad s.heap.size)) (F0 m 374 ls []) := by
                          intro N
                          induction N with
                          | zero => intro kz hk hN; exact absurd hN (Nat.not_lt_zero _)
                          | succ N ih_374 =>
                            intro kz hk hN H locs ls hP hS  hl
                            refine lv_iload hx hb dL_holds_374 (lv_at hl 5 rfl) ?_
                            refine lv_sipush (v := 128) hx hb dL_holds_376 (by decide) ?_
                            refine lv_icmp_ge (tgt := 469) hx hb dL_holds_379 (by decide) (fun c_379 => ?_) (fun c_379 => ?_)
                            · have hk2 : kz = 127 := by have := z_ge_t (b := 128) c_379 (by omega) (by omega); omega
                              subst hk2
                              refine lv_iload hx hb dL_holds_469 (lv_at hl 2 rfl) ?_
                              refine lv_if_eq (tgt := 502) hx hb dL_holds_471 (by decide) (fun c_471 => absurd c_471 (by decide)) (fun c_471 => ?_)
                              refine lv_aload_n hx hb dL_holds_474 rfl (lv_at hl 0 rfl) ?_
                              refine lv_iload hx hb dL_holds_475 (lv_at hl 3 rfl) ?_
                              refine lv_iconst (v := (nI 0)) hx hb dL_holds_477 (by decide) ?_
                              obtain ⟨fs_478, hfs_478⟩ := hTT.rc
                              refine z_Vi_mo (As := [.int sm, .int (nI 0)]) (rest := []) C0 hP hS hl.1 (m_X4_cordsFor l _ hTT hs1 hs2 (by decide)) lk_L_84 hTT.n0 hfs_478 rfl rfl (Nat.le_of_ble_eq_true rfl) ⟨Nat.le_of_ble_eq_true rfl, Nat.le_of_ble_eq_true rfl⟩ rfl rfl ⟨Nat.zero_le _, Nat.zero_le _⟩ dL_holds_478 (fun r_478 g_5 H locs hP hS hp => ?_)
                              obtain ⟨hr_478, hTT, hF1⟩ := hp
                              subst hr_478
                              have hFr := hFr.tr (hF1.mono (by intro x9 hx9; first | (dsimp only [zOne, zRg, zCl] at hx9 ⊢; omega) | (dsimp only at hx9 ⊢; omega) | omega))
                              refine lv_iload hx hb dL_holds_481 (lv_at hl 4 rfl) ?_
                              refine lv_icmp_ne (tgt := 502) hx hb dL_holds_483 (by decide) (fun c_483 => absurd (for_is hI.1 hs1 hs2 0) c_483) (fun c_483 => ?_)
                              refine lv_aload_n hx hb dL_holds_486 rfl (lv_at hl 0 rfl) ?_
                              refine lv_iload hx hb dL_holds_487 (lv_at hl 3 rfl) ?_
                              refine lv_iconst (v := (nI 1)) hx hb dL_holds_489 (by decide) ?_
                              obtain ⟨fs_490, hfs_490⟩ := hTT.rc
                              refine z_Vi_mo (As := [.int sm, .int (nI 1)]) (rest := []) C0 hP hS hl.1 (m_X4_cordsFor l _ hTT hs1 hs2 (by decide)) lk_L_84 hTT.n0 hfs_490 rfl rfl (Nat.le_of_ble_eq_true rfl) ⟨Nat.le_of_ble_eq_true rfl, Nat.le_of_ble_eq_true rfl⟩ rfl rfl ⟨Nat.zero_le _, Nat.zero_le _⟩ dL_holds_490 (fun r_490 g_6 H locs hP hS hp => ?_)
                              obtain ⟨hr_490, hTT, hF1⟩ := hp
                              subst hr_490
                              have hFr := hFr.tr (hF1.mono (by intro x9 hx9; first | (dsimp only [zOne, zRg, zCl] at hx9 ⊢; omega) | (dsimp only at hx9 ⊢; omega) | omega))
                              refine lv_iload hx hb dL_holds_493 (lv_at hl 4 rfl) ?_
                              refine lv_icmp_ne (tgt := 502) hx hb dL_holds_495 (by decide) (fun c_495 => absurd (for_is hI.1 hs1 hs2 1) c_495) (fun c_495 => ?_)
                              refine lv_iconst (v := 1) hx hb dL_holds_498 (by decide) ?_
                              refine lv_goto (tgt := 503) hx hb dL_holds_499 (by decide) ?_
                              exact z_zret C0 hP hS hr rfl (⟨rfl, hTT, hFr⟩) dL_holds_503
                            · have hk9 : kz < 127 := by have := z_ge_f (b := 128) c_379 (by omega) (by omega); omega
                              refine lv_iconst (v := 0) hx hb dL_holds_382 (by decide) ?_
                              refine z_topi (y := setT (cTold st) (nI (kz + 1)) 0) rfl ?_
                              refine lv_istore (lv' := [(13, .int (setT (cTold st) (nI (kz + 1)) 0)), (0, .ref (ad 0)), (1, .int xz), (8, .int 1), (10, .int sm), (11, .int (sfF st sm kz)), (12, .int (nI (kz + 1)))]) hx hb dL_holds_383 hl (by decide) rfl (fun ls hl => ?_)
                              refine lv_iconst (v := (nI 0)) hx hb dL_holds_385 (by decide) ?_
                              refine lv_istore (lv' := [(14, .int (nI 0)), (13, .int (setT (cTold st) (nI (kz + 1)) 0)), (0, .ref (ad 0)), (1, .int xz), (8, .int 1), (10, .int sm), (11, .int (sfF st sm kz)), (12, .int (nI (kz + 1)))]) hx hb dL_holds_386 hl (by decide) rfl (fun ls hl => ?_)
                              have lp_388 : ∀ (N : Nat) (cz : Nat) (hk3 : cz ≤ 7), 7 - cz < N → ∀ (H : Heap) (locs : List Loc) (ls : Array Slot), zP D K ad g (zA K ad s.heap.size) H → va_S (zA K ad s.heap.size) s.heap H locs → lv_has ls 15 [(0, .ref (ad 0)), (1, .int xz), (8, .int 1), (10, .int sm), (11, .int (sfF st sm kz)), (12, .int (nI (kz + 1))), (13, .int (setT (cTold st) (nI (kz + 1)) cz)), (14, .int (nI cz))] → W p l e ({ frames := 12, cells := 0, slots := 0, locals := 342 } : Room) s m [.ref (ad 0), .int xz].toArray below meth c H locs 0 0 (MQ below (va_Qi (fun r g1 => r = 1 ∧ isT cy K ad g1 st sv nx sz2 ns ss bu ln ∧ zFr zCl g g1) (zOut D cy K ad s.heap.size) (zA K ad s.heap.size)) [.ref (ad 0), .int xz].toArray s 0 0 (zA K ad s.heap.size)) (F0 m 388 ls []) := by
                                intro N
                                induction N with
                                | zero => intro cz hk3 hN; exact absurd hN (Nat.not_lt_zero _)
                                | succ N ih_388 =>
                                  intro cz hk3 hN H locs ls hP hS  hl
                                  refine lv_iload hx hb dL_holds_388 (lv_at hl 7 rfl) ?_
                                  refine lv_bipush (v := 7) hx hb dL_holds_390 (by decide) ?_
                                  refine lv_icmp_ge (tgt := 428) hx hb dL_holds_392 (by decide) (fun c_392 => ?_) (fun c_392 => ?_)
                                  · have hk2 : cz = 7 := by have := z_ge_t (b := 7) c_392 (by omega) (by omega); omega
                                    subst hk2
                                    refine lv_iload hx hb dL_holds_428 (lv_at hl 6 rfl) ?_
                                    refine lv_iload hx hb dL_holds_430 (lv_at hl 3 rfl) ?_
                                    refine lv_icmp_ne (tgt := 459) hx hb dL_holds_432 (by decide) (fun c_432 => ?_) (fun c_432 => ?_)
                                    · refine lv_iload hx hb dL_holds_459 (lv_at hl 4 rfl) ?_
                                      refine z_topi (y := sfF st sm (kz + 1)) (sf_a hk9 c_432) ?_
                                      refine lv_istore (lv' := [(11, .int (sfF st sm (kz + 1))), (0, .ref (ad 0)), (1, .int xz), (8, .int 1), (10, .int sm), (12, .int (nI (kz + 1))), (13, .int (setT (cTold st) (nI (kz + 1)) 7)), (14, .int (nI 7))]) hx hb dL_holds_461 hl (by decide) rfl (fun ls hl => ?_)
                                      refine lv_iinc (v := nI ((kz + 1) + 1)) (lv' := [(12, .int (nI ((kz + 1) + 1))), (11, .int (sfF st sm (kz + 1))), (0, .ref (ad 0)), (1, .int xz), (8, .int 1), (10, .int sm), (13, .int (setT (cTold st) (nI (kz + 1)) 7)), (14, .int (nI 7))]) hx hb dL_holds_463 hl (k := 5) rfl (z_inc _) (by decide) rfl (fun ls hl => ?_)
                                      refine lv_goto (tgt := 374) hx hb dL_holds_466 (by decide) ?_
                                      exact ih_374 (kz + 1) (by omega) (by omega) _ _ _ hP hS  (lv_sub hl [2, 3, 4, 5, 1, 0] rfl)
                                    · refine lv_iload hx hb dL_holds_435 (lv_at hl 4 rfl) ?_
                                      refine lv_iconst (v := (-1)) hx hb dL_holds_437 (by decide) ?_
                                      refine lv_icmp_eq (tgt := 454) hx hb dL_holds_438 (by decide) (fun c_438 => ?_) (fun c_438 => ?_)
                                      · refine lv_iload hx hb dL_holds_454 (lv_at hl 5 rfl) ?_
                                        refine lv_goto (tgt := 461) hx hb dL_holds_456 (by decide) ?_
                                        refine z_topi (y := sfF st sm (kz + 1)) (sf_b hk9 c_432 c_438) ?_
                                        refine lv_istore (lv' := [(11, .int (sfF st sm (kz + 1))), (0, .ref (ad 0)), (1, .int xz), (8, .int 1), (10, .int sm), (12, .int (nI (kz + 1))), (13, .int (setT (cTold st) (nI (kz + 1)) 7)), (14, .int (nI 7))]) hx hb dL_holds_461 hl (by decide) rfl (fun ls hl => ?_)
                                        refine lv_iinc (v := nI ((kz + 1) + 1)) (lv' := [(12, .int (nI ((kz + 1) + 1))), (11, .int (sfF st sm (kz + 1))), (0, .ref (ad 0)), (1, .int xz), (8, .int 1), (10, .int sm), (13, .int (setT (cTold st) (nI (kz + 1)) 7)), (14, .int (nI 7))]) hx hb dL_holds_463 hl (k := 5) rfl (z_inc _) (by decide) rfl (fun ls hl => ?_)
                                        refine lv_goto (tgt := 374) hx hb dL_holds_466 (by decide) ?_
                                        exact ih_374 (kz + 1) (by omega) (by omega) _ _ _ hP hS  (lv_sub hl [2, 3, 4, 5, 1, 0] rfl)
                                      · refine lv_iload hx hb dL_holds_441 (lv_at hl 5 rfl) ?_
                                        refine z_Si_eq (As := [.int (nI (kz + 1))]) (rest := []) C0 hP hS hl.1 (m_L_bits l _ ) lk_L_81 rfl rfl (Nat.le_of_ble_eq_true rfl) ⟨Nat.le_of_ble_eq_true rfl, Nat.le_of_ble_eq_true rfl⟩ rfl rfl ⟨Nat.zero_le _, Nat.zero_le _⟩ dL_holds_443 (fun H locs hP hS => ?_)
                                        refine lv_iload hx hb dL_holds_446 (lv_at hl 4 rfl) ?_
                                        refine z_Si_eq (As := [.int (sfF st sm kz)]) (rest := [.int (mnF (nI (kz + 1)))]) C0 hP hS hl.1 (m_L_bits l _ ) lk_L_81 rfl rfl (Nat.le_of_ble_eq_true rfl) ⟨Nat.le_of_ble_eq_true rfl, Nat.le_of_ble_eq_true rfl⟩ rfl rfl ⟨Nat.zero_le _, Nat.zero_le _⟩ dL_holds_448 (fun H locs hP hS => ?_)
                                        refine lv_icmp_ge (tgt := 459) hx hb dL_holds_451 (by decide) (fun c_451 => ?_) (fun c_451 => ?_)
                                        · refine lv_iload hx hb dL_holds_459 (lv_at hl 4 rfl) ?_
                                          refine z_topi (y := sfF st sm (kz + 1)) (sf_c hk9 c_432 c_438 c_451) ?_
                                          refine lv_istore (lv' := [(11, .int (sfF st sm (kz + 1))), (0, .ref (ad 0)), (1, .int xz), (8, .int 1), (10, .int sm), (12, .int (nI (kz + 1))), (13, .int (setT (cTold st) (nI (kz + 1)) 7)), (14, .int (nI 7))]) hx hb dL_holds_461 hl (by decide) rfl (fun ls hl => ?_)
                                          refine lv_iinc (v := nI ((kz + 1) + 1)) (lv' := [(12, .int (nI ((kz + 1) + 1))), (11, .int (sfF st sm (kz + 1))), (0, .ref (ad 0)), (1, .int xz), (8, .int 1), (10, .int sm), (13, .int (setT (cTold st) (nI (kz + 1)) 7)), (14, .int (nI 7))]) hx hb dL_holds_463 hl (k := 5) rfl (z_inc _) (by decide) rfl (fun ls hl => ?_)
                                          refine lv_goto (tgt := 374) hx hb dL_holds_466 (by decide) ?_
                                          exact ih_374 (kz + 1) (by omega) (by omega) _ _ _ hP hS  (lv_sub hl [2, 3, 4, 5, 1, 0] rfl)
                                        · refine lv_iload hx hb dL_holds_454 (lv_at hl 5 rfl) ?_
                                          refine lv_goto (tgt := 461) hx hb dL_holds_456 (by decide) ?_
                                          refine z_topi (y := sfF st sm (kz + 1)) (sf_d hk9 c_432 c_451) ?_
                                          refine lv_istore (lv' := [(11, .int (sfF st sm (kz + 1))), (0, .ref (ad 0)), (1, .int xz), (8, .int 1), (10, .int sm), (12, .int (nI (kz + 1))), (13, .int (setT (cTold st) (nI (kz + 1)) 7)), (14, .int (nI 7))]) hx hb dL_holds_461 hl (by decide) rfl (fun ls hl => ?_)
                                          refine lv_iinc (v := nI ((kz + 1) + 1)) (lv' := [(12, .int (nI ((kz + 1) + 1))), (11, .int (sfF st sm (kz + 1))), (0, .ref (ad 0)), (1, .int xz), (8, .int 1), (10, .int sm), (13, .int (setT (cTold st) (nI (kz + 1)) 7)), (14, .int (nI 7))]) hx hb dL_holds_463 hl (k := 5) rfl (z_inc _) (by decide) rfl (fun ls hl => ?_)
                                          refine lv_goto (tgt := 374) hx hb dL_holds_466 (by decide) ?_
                                          exact ih_374 (kz + 1) (by omega) (by omega) _ _ _ hP hS  (lv_sub hl [2, 3, 4, 5, 1, 0] rfl)
                                  · have hk2 : cz < 7 := z_ge_f (b := 7) c_392 (by omega) (by omega)
                                    refine lv_iload hx hb dL_holds_395 (lv_at hl 6 rfl) ?_
                                    refine lv_iload hx hb dL_holds_397 (lv_at hl 5 rfl) ?_
                                    refine lv_iload hx hb dL_holds_399 (lv_at hl 7 rfl) ?_
                                    refine lv_ishr hx hb dL_holds_401 ?_
                                    refine lv_iconst (v := 1) hx hb dL_holds_402 (by decide) ?_
                                    refine lv_iand hx hb dL_holds_403 ?_
                                    refine lv_iconst (v := 1) hx hb dL_holds_404 (by decide) ?_
                                    refine lv_icmp_ne (tgt := 418) hx hb dL_holds_405 (by decide) (fun c_405 => ?_) (fun c_405 => ?_)
                                    · refine lv_iconst (v := 0) hx hb dL_holds_418 (by decide) ?_
                                      refine lv_iadd hx hb dL_holds_419 ?_
                                      refine z_topi (y := setT (cTold st) (nI (kz + 1)) (cz + 1)) (set_T c_405) ?_
                                      refine lv_istore (lv' := [(13, .int (setT (cTold st) (nI (kz + 1)) (cz + 1))), (0, .ref (ad 0)), (1, .int xz), (8, .int 1), (10, .int sm), (11, .int (sfF st sm kz)), (12, .int (nI (kz + 1))), (14, .int (nI cz))]) hx hb dL_holds_420 hl (by decide) rfl (fun ls hl => ?_)
                                      refine lv_iinc (v := nI (cz + 1)) (lv' := [(14, .int (nI (cz + 1))), (13, .int (setT (cTold st) (nI (kz + 1)) (cz + 1))), (0, .ref (ad 0)), (1, .int xz), (8, .int 1), (10, .int sm), (11, .int (sfF st sm kz)), (12, .int (nI (kz + 1)))]) hx hb dL_holds_422 hl (k := 7) rfl (z_inc _) (by decide) rfl (fun ls hl => ?_)
                                      refine lv_goto (tgt := 388) hx hb dL_holds_425 (by decide) ?_
                                      exact ih_388 (cz + 1) (by omega) (by omega) _ _ _ hP hS  (lv_sub hl [2, 3, 4, 5, 6, 7, 1, 0] rfl)
                                    · refine lv_aload_n hx hb dL_holds_408 rfl (lv_at hl 0 rfl) ?_
                                      refine lv_iload hx hb dL_holds_409 (lv_at hl 7 rfl) ?_
                                      refine lv_iconst (v := (nI 0)) hx hb dL_holds_411 (by decide) ?_
                                      obtain ⟨fs_412, hfs_412⟩ := hTT.rc
                                      refine z_Vi_eq (As := [.int (nI cz), .int (nI 0)]) (rest := [.int (setT (cTold st) (nI (kz + 1)) cz)]) C0 hP hS hl.1 (m_X4_cordOf l _ hTT hk2 (by decide) hI.pc) lk_L_15 hTT.n0 hfs_412 rfl rfl (Nat.le_of_ble_eq_true rfl) ⟨Nat.le_of_ble_eq_true rfl, Nat.le_of_ble_eq_true rfl⟩ rfl rfl ⟨Nat.zero_le _, Nat.zero_le _⟩ dL_holds_412 (fun H locs hP hS => ?_)
                                      refine z_topi (y := cTold st cz) rfl ?_
                                      refine lv_goto (tgt := 419) hx hb dL_holds_415 (by decide) ?_
                                      refine lv_iadd hx hb dL_holds_419 ?_
                                      refine z_topi (y := setT (cTold st) (nI (kz + 1)) (cz + 1)) (set_F c_405) ?_
                                      refine lv_istore (lv' := [(13, .int (setT (cTold st) (nI (kz + 1)) (cz + 1))), (0, .ref (ad 0)), (1, .int xz), (8, .int 1), (10, .int sm), (11, .int (sfF st sm kz)), (12, .int (nI (kz + 1))), (14, .int (nI cz))]) hx hb dL_holds_420 hl (by decide) rfl (fun ls hl => ?_)
                                      refine lv_iinc (v := nI (cz + 1)) (lv' := [(14, .int (nI (cz + 1))), (13, .int (setT (cTold st) (nI (kz + 1)) (cz + 1))), (0, .ref (ad 0)), (1, .int xz), (8, .int 1), (10, .int sm), (11, .int (sfF st sm kz)), (12, .int (nI (kz + 1)))]) hx hb dL_holds_422 hl (k := 7) rfl (z_inc _) (by decide) rfl (fun ls hl => ?_)
                                      refine lv_goto (tgt := 388) hx hb dL_holds_425 (by decide) ?_
                                      exact ih_388 (cz + 1) (by omega) (by omega) _ _ _ hP hS  (lv_sub hl [2, 3, 4, 5, 6, 7, 1, 0] rfl)
                              exact lp_388 _ 0 (by decide) (Nat.lt_succ_self _) _ _ _ hP hS  (lv_sub hl [2, 3, 4, 5, 6, 7, 1, 0] rfl)
                        exact lp_374 _ 0 (by decide) (Nat.lt_succ_self _) _ _ _ hP hS  (lv_sub hl [3, 4, 5, 2, 1, 0] rfl)
                      · refine lv_iload_n hx hb dL_holds_339 rfl (lv_at hl 1 rfl) ?_
                        refine lv_bipush (v := 7) hx hb dL_holds_340 (by decide) ?_
                        refine lv_ishr hx hb dL_holds_342 ?_
                        refine lv_bipush (v := 7) hx hb dL_holds_343 (by decide) ?_
                        refine lv_iand hx hb dL_holds_345 ?_
                        refine lv_if_ne (tgt := 364) hx hb dL_holds_346 (by decide) (fun c_346 => ?_) (fun c_346 => ?_)
                        · refine lv_iload hx hb dL_holds_364 (lv_at hl 4 rfl) ?_
                          have hs9 := set_rng hI.1 (m := k7 + 1) (by omega)
                          obtain ⟨sm, hsm⟩ : ∃ sm : Int32, (setT (cTold st) (nI (k7 + 1)) 7 : Int32) = sm := ⟨_, rfl⟩
                          have hs1 : ¬ sm < 1 := by rw [← hsm]; exact (sum_ok hs9.1 hs9.2 c_336).1
                          have hs2 : sm ≤ 9999999 := by rw [← hsm]; exact (sum_ok hs9.1 hs9.2 c_336).2
                          refine z_topi (y := sm) hsm ?_
                          refine lv_istore (lv' := [(10, .int sm), (0, .ref (ad 0)), (1, .int xz), (8, .int 1), (9, .int (nI (k7 + 1))), (11, .int (nI 7))]) hx hb dL_holds_366 hl (by decide) rfl (fun ls hl => ?_)
                          refine lv_iconst (v := (-1)) hx hb dL_holds_368 (by decide) ?_
                          refine z_topi (y := sfF st sm 0) rfl ?_
                          refine lv_istore (lv' := [(11, .int (sfF st sm 0)), (10, .int sm), (0, .ref (ad 0)), (1, .int xz), (8, .int 1), (9, .int (nI (k7 + 1)))]) hx hb dL_holds_369 hl (by decide) rfl (fun ls hl => ?_)
                          refine lv_iconst (v := (nI (0 + 1))) hx hb dL_holds_371 (by decide) ?_
                          refine lv_istore (lv' := [(12, .int (nI (0 + 1))), (11, .int (sfF st sm 0)), (10, .int sm), (0, .ref (ad 0)), (1, .int xz), (8, .int 1), (9, .int (nI (k7 + 1)))]) hx hb dL_holds_372 hl (by decide) rfl (fun ls hl => ?_)
                          have lp_374 : ∀ (N : Nat) (kz : Nat) (hk : kz ≤ 127), 127 - kz < N → ∀ (H : Heap) (locs : List Loc) (ls : Array Slot), zP D K ad g (zA K ad s.heap.size) H → va_S (zA K ad s.heap.size) s.heap H locs → lv_has ls 15 [(0, .ref (ad 0)), (1, .int xz), (8, .int 1), (10, .int sm), (11, .int (sfF st sm kz)), (12, .int (nI (kz + 1)))] → W p l e ({ frames := 12, cells := 0, slots := 0, locals := 342 } : Room) s m [.ref (ad 0), .int xz].toArray below meth c H locs 0 0 (MQ below (va_Qi (fun r g1 => r = 1 ∧ isT cy K ad g1 st sv nx sz2 ns ss bu ln ∧ zFr zCl g g1) (zOut D cy K ad s.heap.size) (zA K ad s.heap.size)) [.ref (ad 0), .int xz].toArray s 0 0 (zA K ad s.heap.size)) (F0 m 374 ls []) := by
                            intro N
                            induction N with
                            | zero => intro kz hk hN; exact absurd hN (Nat.not_lt_zero _)
                            | succ N ih_374 =>
                              intro kz hk hN H locs ls hP hS  hl
                              refine lv_iload hx hb dL_holds_374 (lv_at hl 5 rfl) ?_
                              refine lv_sipush (v := 128) hx hb dL_holds_376 (by decide) ?_
                              refine lv_icmp_ge (tgt := 469) hx hb dL_holds_379 (by decide) (fun c_379 => ?_) (fun c_379 => ?_)
                              · have hk2 : kz = 127 := by have := z_ge_t (b := 128) c_379 (by omega) (by omega); omega
                                subst hk2
                                refine lv_iload hx hb dL_holds_469 (lv_at hl 2 rfl) ?_
                                refine lv_if_eq (tgt := 502) hx hb dL_holds_471 (by decide) (fun c_471 => absurd c_471 (by decide)) (fun c_471 => ?_)
                                refine lv_aload_n hx hb dL_holds_474 rfl (lv_at hl 0 rfl) ?_
                                refine lv_iload hx hb dL_holds_475 (lv_at hl 3 rfl) ?_
                                refine lv_iconst (v := (nI 0)) hx hb dL_holds_477 (by decide) ?_
                                obtain ⟨fs_478, hfs_478⟩ := hTT.rc
                                refine z_Vi_mo (As := [.int sm, .int (nI 0)]) (rest := []) C0 hP hS hl.1 (m_X4_cordsFor l _ hTT hs1 hs2 (by decide)) lk_L_84 hTT.n0 hfs_478 rfl rfl (Nat.le_of_ble_eq_true rfl) ⟨Nat.le_of_ble_eq_true rfl, Nat.le_of_ble_eq_true rfl⟩ rfl rfl ⟨Nat.zero_le _, Nat.zero_le _⟩ dL_holds_478 (fun r_478 g_9 H locs hP hS hp => ?_)
                                obtain ⟨hr_478, hTT, hF1⟩ := hp
                                subst hr_478
                                have hFr := hFr.tr (hF1.mono (by intro x9 hx9; first | (dsimp only [zOne, zRg, zCl] at hx9 ⊢; omega) | (dsimp only at hx9 ⊢; omega) | omega))
                                refine lv_iload hx hb dL_holds_481 (lv_at hl 4 rfl) ?_
                                refine lv_icmp_ne (tgt := 502) hx hb dL_holds_483 (by decide) (fun c_483 => absurd (for_is hI.1 hs1 hs2 0) c_483) (fun c_483 => ?_)
                                refine lv_aload_n hx hb dL_holds_486 rfl (lv_at hl 0 rfl) ?_
                                refine lv_iload hx hb dL_holds_487 (lv_at hl 3 rfl) ?_
                                refine lv_iconst (v := (nI 1)) hx hb dL_holds_489 (by decide) ?_
                                obtain ⟨fs_490, hfs_490⟩ := hTT.rc
                                refine z_Vi_mo (As := [.int sm, .int (nI 1)]) (rest := []) C0 hP hS hl.1 (m_X4_cordsFor l _ hTT hs1 hs2 (by decide)) lk_L_84 hTT.n0 hfs_490 rfl rfl (Nat.le_of_ble_eq_true rfl) ⟨Nat.le_of_ble_eq_true rfl, Nat.le_of_ble_eq_true rfl⟩ rfl rfl ⟨Nat.zero_le _, Nat.zero_le _⟩ dL_holds_490 (fun r_490 g_10 H locs hP hS hp => ?_)
                                obtain ⟨hr_490, hTT, hF1⟩ := hp
                                subst hr_490
                                have hFr := hFr.tr (hF1.mono (by intro x9 hx9; first | (dsimp only [zOne, zRg, zCl] at hx9 ⊢; omega) | (dsimp only at hx9 ⊢; omega) | omega))
                                refine lv_iload hx hb dL_holds_493 (lv_at hl 4 rfl) ?_
                                refine lv_icmp_ne (tgt := 502) hx hb dL_holds_495 (by decide) (fun c_495 => absurd (for_is hI.1 hs1 hs2 1) c_495) (fun c_495 => ?_)
                                refine lv_iconst (v := 1) hx hb dL_holds_498 (by decide) ?_
                                refine lv_goto (tgt := 503) hx hb dL_holds_499 (by decide) ?_
                                exact z_zret C0 hP hS hr rfl (⟨rfl, hTT, hFr⟩) dL_holds_503
                              · have hk9 : kz < 127 := by have := z_ge_f (b := 128) c_379 (by omega) (by omega); omega
                                refine lv_iconst (v := 0) hx hb dL_holds_382 (by decide) ?_
                                refine z_topi (y := setT (cTold st) (nI (kz + 1)) 0) rfl ?_
                                refine lv_istore (lv' := [(13, .int (setT (cTold st) (nI (kz + 1)) 0)), (0, .ref (ad 0)), (1, .int xz), (8, .int 1), (10, .int sm), (11, .int (sfF st sm kz)), (12, .int (nI (kz + 1)))]) hx hb dL_holds_383 hl (by decide) rfl (fun ls hl => ?_)
                                refine lv_iconst (v := (nI 0)) hx hb dL_holds_385 (by decide) ?_
                                refine lv_istore (lv' := [(14, .int (nI 0)), (13, .int (setT (cTold st) (nI (kz + 1)) 0)), (0, .ref (ad 0)), (1, .int xz), (8, .int 1), (10, .int sm), (11, .int (sfF st sm kz)), (12, .int (nI (kz + 1)))]) hx hb dL_holds_386 hl (by decide) rfl (fun ls hl => ?_)
                                have lp_388 : ∀ (N : Nat) (cz : Nat) (hk3 : cz ≤ 7), 7 - cz < N → ∀ (H : Heap) (locs : List Loc) (ls : Array Slot), zP D K ad g (zA K ad s.heap.size) H → va_S (zA K ad s.heap.size) s.heap H locs → lv_has ls 15 [(0, .ref (ad 0)), (1, .int xz), (8, .int 1), (10, .int sm), (11, .int (sfF st sm kz)), (12, .int (nI (kz + 1))), (13, .int (setT (cTold st) (nI (kz + 1)) cz)), (14, .int (nI cz))] → W p l e ({ frames := 12, cells := 0, slots := 0, locals := 342 } : Room) s m [.ref (ad 0), .int xz].toArray below meth c H locs 0 0 (MQ below (va_Qi (fun r g1 => r = 1 ∧ isT cy K ad g1 st sv nx sz2 ns ss bu ln ∧ zFr zCl g g1) (zOut D cy K ad s.heap.size) (zA K ad s.heap.size)) [.ref (ad 0), .int xz].toArray s 0 0 (zA K ad s.heap.size)) (F0 m 388 ls []) := by
                                  intro N
                                  induction N with
                                  | zero => intro cz hk3 hN; exact absurd hN (Nat.not_lt_zero _)
                                  | succ N ih_388 =>
                                    intro cz hk3 hN H locs ls hP hS  hl
                                    refine lv_iload hx hb dL_holds_388 (lv_at hl 7 rfl) ?_
                                    refine lv_bipush (v := 7) hx hb dL_holds_390 (by decide) ?_
                                    refine lv_icmp_ge (tgt := 428) hx hb dL_holds_392 (by decide) (fun c_392 => ?_) (fun c_392 => ?_)
                                    · have hk2 : cz = 7 := by have := z_ge_t (b := 7) c_392 (by omega) (by omega); omega
                                      subst hk2
                                      refine lv_iload hx hb dL_holds_428 (lv_at hl 6 rfl) ?_
                                      refine lv_iload hx hb dL_holds_430 (lv_at hl 3 rfl) ?_
                                      refine lv_icmp_ne (tgt := 459) hx hb dL_holds_432 (by decide) (fun c_432 => ?_) (fun c_432 => ?_)
                                      · refine lv_iload hx hb dL_holds_459 (lv_at hl 4 rfl) ?_
                                        refine z_topi (y := sfF st sm (kz + 1)) (sf_a hk9 c_432) ?_
                                        refine lv_istore (lv' := [(11, .int (sfF st sm (kz + 1))), (0, .ref (ad 0)), (1, .int xz), (8, .int 1), (10, .int sm), (12, .int (nI (kz + 1))), (13, .int (setT (cTold st) (nI (kz + 1)) 7)), (14, .int (nI 7))]) hx hb dL_holds_461 hl (by decide) rfl (fun ls hl => ?_)
                                        refine lv_iinc (v := nI ((kz + 1) + 1)) (lv' := [(12, .int (nI ((kz + 1) + 1))), (11, .int (sfF st sm (kz + 1))), (0, .ref (ad 0)), (1, .int xz), (8, .int 1), (10, .int sm), (13, .int (setT (cTold st) (nI (kz + 1)) 7)), (14, .int (nI 7))]) hx hb dL_holds_463 hl (k := 5) rfl (z_inc _) (by decide) rfl (fun ls hl => ?_)
                                        refine lv_goto (tgt := 374) hx hb dL_holds_466 (by decide) ?_
                                        exact ih_374 (kz + 1) (by omega) (by omega) _ _ _ hP hS  (lv_sub hl [2, 3, 4, 5, 1, 0] rfl)
                                      · refine lv_iload hx hb dL_holds_435 (lv_at hl 4 rfl) ?_
                                        refine lv_iconst (v := (-1)) hx hb dL_holds_437 (by decide) ?_
                                        refine lv_icmp_eq (tgt := 454) hx hb dL_holds_438 (by decide) (fun c_438 => ?_) (fun c_438 => ?_)
                                        · refine lv_iload hx hb dL_holds_454 (lv_at hl 5 rfl) ?_
                                          refine lv_goto (tgt := 461) hx hb dL_holds_456 (by decide) ?_
                                          refine z_topi (y := sfF st sm (kz + 1)) (sf_b hk9 c_432 c_438) ?_
                                          refine lv_istore (lv' := [(11, .int (sfF st sm (kz + 1))), (0, .ref (ad 0)), (1, .int xz), (8, .int 1), (10, .int sm), (12, .int (nI (kz + 1))), (13, .int (setT (cTold st) (nI (kz + 1)) 7)), (14, .int (nI 7))]) hx hb dL_holds_461 hl (by decide) rfl (fun ls hl => ?_)
                                          refine lv_iinc (v := nI ((kz + 1) + 1)) (lv' := [(12, .int (nI ((kz + 1) + 1))), (11, .int (sfF st sm (kz + 1))), (0, .ref (ad 0)), (1, .int xz), (8, .int 1), (10, .int sm), (13, .int (setT (cTold st) (nI (kz + 1)) 7)), (14, .int (nI 7))]) hx hb dL_holds_463 hl (k := 5) rfl (z_inc _) (by decide) rfl (fun ls hl => ?_)
                                          refine lv_goto (tgt := 374) hx hb dL_holds_466 (by decide) ?_
                                          exact ih_374 (kz + 1) (by omega) (by omega) _ _ _ hP hS  (lv_sub hl [2, 3, 4, 5, 1, 0] rfl)
                                        · refine lv_iload hx hb dL_holds_441 (lv_at hl 5 rfl) ?_
                                          refine z_Si_eq (As := [.int (nI (kz + 1))]) (rest := []) C0 hP hS hl.1 (m_L_bits l _ ) lk_L_81 rfl rfl (Nat.le_of_ble_eq_true rfl) ⟨Nat.le_of_ble_eq_true rfl, Nat.le_of_ble_eq_true rfl⟩ rfl rfl ⟨Nat.zero_le _, Nat.zero_le _⟩ dL_holds_443 (fun H locs hP hS => ?_)
                                          refine lv_iload hx hb dL_holds_446 (lv_at hl 4 rfl) ?_
                                          refine z_Si_eq (As := [.int (sfF st sm kz)]) (rest := [.int (mnF (nI (kz + 1)))]) C0 hP hS hl.1 (m_L_bits l _ ) lk_L_81 rfl rfl (Nat.le_of_ble_eq_true rfl) ⟨Nat.le_of_ble_eq_true rfl, Nat.le_of_ble_eq_true rfl⟩ rfl rfl ⟨Nat.zero_le _, Nat.zero_le _⟩ dL_holds_448 (fun H locs hP hS => ?_)
                                          refine lv_icmp_ge (tgt := 459) hx hb dL_holds_451 (by decide) (fun c_451 => ?_) (fun c_451 => ?_)
                                          · refine lv_iload hx hb dL_holds_459 (lv_at hl 4 rfl) ?_
                                            refine z_topi (y := sfF st sm (kz + 1)) (sf_c hk9 c_432 c_438 c_451) ?_
                                            refine lv_istore (lv' := [(11, .int (sfF st sm (kz + 1))), (0, .ref (ad 0)), (1, .int xz), (8, .int 1), (10, .int sm), (12, .int (nI (kz + 1))), (13, .int (setT (cTold st) (nI (kz + 1)) 7)), (14, .int (nI 7))]) hx hb dL_holds_461 hl (by decide) rfl (fun ls hl => ?_)
                                            refine lv_iinc (v := nI ((kz + 1) + 1)) (lv' := [(12, .int (nI ((kz + 1) + 1))), (11, .int (sfF st sm (kz + 1))), (0, .ref (ad 0)), (1, .int xz), (8, .int 1), (10, .int sm), (13, .int (setT (cTold st) (nI (kz + 1)) 7)), (14, .int (nI 7))]) hx hb dL_holds_463 hl (k := 5) rfl (z_inc _) (by decide) rfl (fun ls hl => ?_)
                                            refine lv_goto (tgt := 374) hx hb dL_holds_466 (by decide) ?_
                                            exact ih_374 (kz + 1) (by omega) (by omega) _ _ _ hP hS  (lv_sub hl [2, 3, 4, 5, 1, 0] rfl)
                                          · refine lv_iload hx hb dL_holds_454 (lv_at hl 5 rfl) ?_
                                            refine lv_goto (tgt := 461) hx hb dL_holds_456 (by decide) ?_
                                            refine z_topi (y := sfF st sm (kz + 1)) (sf_d hk9 c_432 c_451) ?_
                                            refine lv_istore (lv' := [(11, .int (sfF st sm (kz + 1))), (0, .ref (ad 0)), (1, .int xz), (8, .int 1), (10, .int sm), (12, .int (nI (kz + 1))), (13, .int (setT (cTold st) (nI (kz + 1)) 7)), (14, .int (nI 7))]) hx hb dL_holds_461 hl (by decide) rfl (fun ls hl => ?_)
                                            refine lv_iinc (v := nI ((kz + 1) + 1)) (lv' := [(12, .int (nI ((kz + 1) + 1))), (11, .int (sfF st sm (kz + 1))), (0, .ref (ad 0)), (1, .int xz), (8, .int 1), (10, .int sm), (13, .int (setT (cTold st) (nI (kz + 1)) 7)), (14, .int (nI 7))]) hx hb dL_holds_463 hl (k := 5) rfl (z_inc _) (by decide) rfl (fun ls hl => ?_)
                                            refine lv_goto (tgt := 374) hx hb dL_holds_466 (by decide) ?_
                                            exact ih_374 (kz + 1) (by omega) (by omega) _ _ _ hP hS  (lv_sub hl [2, 3, 4, 5, 1, 0] rfl)
                                    · have hk2 : cz < 7 := z_ge_f (b := 7) c_392 (by omega) (by omega)
                                      refine lv_iload hx hb dL_holds_395 (lv_at hl 6 rfl) ?_
                                      refine lv_iload hx hb dL_holds_397 (lv_at hl 5 rfl) ?_
                                      refine lv_iload hx hb dL_holds_399 (lv_at hl 7 rfl) ?_
                                      refine lv_ishr hx hb dL_holds_401 ?_
                                      refine lv_iconst (v := 1) hx hb dL_holds_402 (by decide) ?_
                                      refine lv_iand hx hb dL_holds_403 ?_
                                      refine lv_iconst (v := 1) hx hb dL_holds_404 (by decide) ?_
                                      refine lv_icmp_ne (tgt := 418) hx hb dL_holds_405 (by decide) (fun c_405 => ?_) (fun c_405 => ?_)
                                      · refine lv_iconst (v := 0) hx hb dL_holds_418 (by decide) ?_
                                        refine lv_iadd hx hb dL_holds_419 ?_
                                        refine z_topi (y := setT (cTold st) (nI (kz + 1)) (cz + 1)) (set_T c_405) ?_
                                        refine lv_istore (lv' := [(13, .int (setT (cTold st) (nI (kz + 1)) (cz + 1))), (0, .ref (ad 0)), (1, .int xz), (8, .int 1), (10, .int sm), (11, .int (sfF st sm kz)), (12, .int (nI (kz + 1))), (14, .int (nI cz))]) hx hb dL_holds_420 hl (by decide) rfl (fun ls hl => ?_)
                                        refine lv_iinc (v := nI (cz + 1)) (lv' := [(14, .int (nI (cz + 1))), (13, .int (setT (cTold st) (nI (kz + 1)) (cz + 1))), (0, .ref (ad 0)), (1, .int xz), (8, .int 1), (10, .int sm), (11, .int (sfF st sm kz)), (12, .int (nI (kz + 1)))]) hx hb dL_holds_422 hl (k := 7) rfl (z_inc _) (by decide) rfl (fun ls hl => ?_)
                                        refine lv_goto (tgt := 388) hx hb dL_holds_425 (by decide) ?_
                                        exact ih_388 (cz + 1) (by omega) (by omega) _ _ _ hP hS  (lv_sub hl [2, 3, 4, 5, 6, 7, 1, 0] rfl)
                                      · refine lv_aload_n hx hb dL_holds_408 rfl (lv_at hl 0 rfl) ?_
                                        refine lv_iload hx hb dL_holds_409 (lv_at hl 7 rfl) ?_
                                        refine lv_iconst (v := (nI 0)) hx hb dL_holds_411 (by decide) ?_
                                        obtain ⟨fs_412, hfs_412⟩ := hTT.rc
                                        refine z_Vi_eq (As := [.int (nI cz), .int (nI 0)]) (rest := [.int (setT (cTold st) (nI (kz + 1)) cz)]) C0 hP hS hl.1 (m_X4_cordOf l _ hTT hk2 (by decide) hI.pc) lk_L_15 hTT.n0 hfs_412 rfl rfl (Nat.le_of_ble_eq_true rfl) ⟨Nat.le_of_ble_eq_true rfl, Nat.le_of_ble_eq_true rfl⟩ rfl rfl ⟨Nat.zero_le _, Nat.zero_le _⟩ dL_holds_412 (fun H locs hP hS => ?_)
                                        refine z_topi (y := cTold st cz) rfl ?_
                                        refine lv_goto (tgt := 419) hx hb dL_holds_415 (by decide) ?_
                                        refine lv_iadd hx hb dL_holds_419 ?_
                                        refine z_topi (y := setT (cTold st) (nI (kz + 1)) (cz + 1)) (set_F c_405) ?_
                                        refine lv_istore (lv' := [(13, .int (setT (cTold st) (nI (kz + 1)) (cz + 1))), (0, .ref (ad 0)), (1, .int xz), (8, .int 1), (10, .int sm), (11, .int (sfF st sm kz)), (12, .int (nI (kz + 1))), (14, .int (nI cz))]) hx hb dL_holds_420 hl (by decide) rfl (fun ls hl => ?_)
                                        refine lv_iinc (v := nI (cz + 1)) (lv' := [(14, .int (nI (cz + 1))), (13, .int (setT (cTold st) (nI (kz + 1)) (cz + 1))), (0, .ref (ad 0)), (1, .int xz), (8, .int 1), (10, .int sm), (11, .int (sfF st sm kz)), (12, .int (nI (kz + 1)))]) hx hb dL_holds_422 hl (k := 7) rfl (z_inc _) (by decide) rfl (fun ls hl => ?_)
                                        refine lv_goto (tgt := 388) hx hb dL_holds_425 (by decide) ?_
                                        exact ih_388 (cz + 1) (by omega) (by omega) _ _ _ hP hS  (lv_sub hl [2, 3, 4, 5, 6, 7, 1, 0] rfl)
                                exact lp_388 _ 0 (by decide) (Nat.lt_succ_self _) _ _ _ hP hS  (lv_sub hl [2, 3, 4, 5, 6, 7, 1, 0] rfl)
                          exact lp_374 _ 0 (by decide) (Nat.lt_succ_self _) _ _ _ hP hS  (lv_sub hl [3, 4, 5, 2, 1, 0] rfl)
                        · refine lv_iconst (v := 1) hx hb dL_holds_349 (by decide) ?_
                          refine lv_iload_n hx hb dL_holds_350 rfl (lv_at hl 1 rfl) ?_
                          refine lv_bipush (v := 7) hx hb dL_holds_351 (by decide) ?_
                          refine lv_ishr hx hb dL_holds_353 ?_
                          refine lv_sipush (v := (nI 2000)) hx hb dL_holds_354 (by decide) ?_
                          refine z_Si_eq (As := [.int (xz >>> (7 &&& 31)), .int (nI 2000)]) (rest := [.int 1]) C0 hP hS hl.1 (m_L_low l _ (by decide) (by decide)) lk_L_9 rfl rfl (Nat.le_of_ble_eq_true rfl) ⟨Nat.le_of_ble_eq_true rfl, Nat.le_of_ble_eq_true rfl⟩ rfl rfl ⟨Nat.zero_le _, Nat.zero_le _⟩ dL_holds_357 (fun H locs hP hS => ?_)
                          refine lv_iadd hx hb dL_holds_360 ?_
                          refine lv_goto (tgt := 366) hx hb dL_holds_361 (by decide) ?_
                          obtain ⟨k8, hk8, ek8⟩ := low1 (xz >>> ((7 : Int32) &&& 31)) (n := 2000) (by decide) (by decide)
                          obtain ⟨sm, hsm⟩ : ∃ sm : Int32, (1 : Int32) + lowF (xz >>> ((7 : Int32) &&& 31)) 2000 = sm := ⟨_, rfl⟩
                          have hs1 : ¬ sm < 1 := by rw [← hsm, ek8]; exact (sum_ok2 hk8).1
                          have hs2 : sm ≤ 9999999 := by rw [← hsm, ek8]; exact (sum_ok2 hk8).2
                          refine z_topi (y := sm) hsm ?_
                          refine lv_istore (lv' := [(10, .int sm), (0, .ref (ad 0)), (1, .int xz), (8, .int 1), (9, .int (nI (k7 + 1))), (11, .int (nI 7))]) hx hb dL_holds_366 hl (by decide) rfl (fun ls hl => ?_)
                          refine lv_iconst (v := (-1)) hx hb dL_holds_368 (by decide) ?_
                          refine z_topi (y := sfF st sm 0) rfl ?_
                          refine lv_istore (lv' := [(11, .int (sfF st sm 0)), (10, .int sm), (0, .ref (ad 0)), (1, .int xz), (8, .int 1), (9, .int (nI (k7 + 1)))]) hx hb dL_holds_369 hl (by decide) rfl (fun ls hl => ?_)
                          refine lv_iconst (v := (nI (0 + 1))) hx hb dL_holds_371 (by decide) ?_
                          refine lv_istore (lv' := [(12, .int (nI (0 + 1))), (11, .int (sfF st sm 0)), (10, .int sm), (0, .ref (ad 0)), (1, .int xz), (8, .int 1), (9, .int (nI (k7 + 1)))]) hx hb dL_holds_372 hl (by decide) rfl (fun ls hl => ?_)
                          have lp_374 : ∀ (N : Nat) (kz : Nat) (hk : kz ≤ 127), 127 - kz < N → ∀ (H : Heap) (locs : List Loc) (ls : Array Slot), zP D K ad g (zA K ad s.heap.size) H → va_S (zA K ad s.heap.size) s.heap H locs → lv_has ls 15 [(0, .ref (ad 0)), (1, .int xz), (8, .int 1), (10, .int sm), (11, .int (sfF st sm kz)), (12, .int (nI (kz + 1)))] → W p l e ({ frames := 12, cells := 0, slots := 0, locals := 342 } : Room) s m [.ref (ad 0), .int xz].toArray below meth c H locs 0 0 (MQ below (va_Qi (fun r g1 => r = 1 ∧ isT cy K ad g1 st sv nx sz2 ns ss bu ln ∧ zFr zCl g g1) (zOut D cy K ad s.heap.size) (zA K ad s.heap.size)) [.ref (ad 0), .int xz].toArray s 0 0 (zA K ad s.heap.size)) (F0 m 374 ls []) := by
                            intro N
                            induction N with
                            | zero => intro kz hk hN; exact absurd hN (Nat.not_lt_zero _)
                            | succ N ih_374 =>
                              intro kz hk hN H locs ls hP hS  hl
                              refine lv_iload hx hb dL_holds_374 (lv_at hl 5 rfl) ?_
                              refine lv_sipush (v := 128) hx hb dL_holds_376 (by decide) ?_
                              refine lv_icmp_ge (tgt := 469) hx hb dL_holds_379 (by decide) (fun c_379 => ?_) (fun c_379 => ?_)
                              · have hk2 : kz = 127 := by have := z_ge_t (b := 128) c_379 (by omega) (by omega); omega
                                subst hk2
                                refine lv_iload hx hb dL_holds_469 (lv_at hl 2 rfl) ?_
                                refine lv_if_eq (tgt := 502) hx hb dL_holds_471 (by decide) (fun c_471 => absurd c_471 (by decide)) (fun c_471 => ?_)
                                refine lv_aload_n hx hb dL_holds_474 rfl (lv_at hl 0 rfl) ?_
                                refine lv_iload hx hb dL_holds_475 (lv_at hl 3 rfl) ?_
                                refine lv_iconst (v := (nI 0)) hx hb dL_holds_477 (by decide) ?_
                                obtain ⟨fs_478, hfs_478⟩ := hTT.rc
                                refine z_Vi_mo (As := [.int sm, .int (nI 0)]) (rest := []) C0 hP hS hl.1 (m_X4_cordsFor l _ hTT hs1 hs2 (by decide)) lk_L_84 hTT.n0 hfs_478 rfl rfl (Nat.le_of_ble_eq_true rfl) ⟨Nat.le_of_ble_eq_true rfl, Nat.le_of_ble_eq_true rfl⟩ rfl rfl ⟨Nat.zero_le _, Nat.zero_le _⟩ dL_holds_478 (fun r_478 g_13 H locs hP hS hp => ?_)
                                obtain ⟨hr_478, hTT, hF1⟩ := hp
                                subst hr_478
                                have hFr := hFr.tr (hF1.mono (by intro x9 hx9; first | (dsimp only [zOne, zRg, zCl] at hx9 ⊢; omega) | (dsimp only at hx9 ⊢; omega) | omega))
                                refine lv_iload hx hb dL_holds_481 (lv_at hl 4 rfl) ?_
                                refine lv_icmp_ne (tgt := 502) hx hb dL_holds_483 (by decide) (fun c_483 => absurd (for_is hI.1 hs1 hs2 0) c_483) (fun c_483 => ?_)
                                refine lv_aload_n hx hb dL_holds_486 rfl (lv_at hl 0 rfl) ?_
                                refine lv_iload hx hb dL_holds_487 (lv_at hl 3 rfl) ?_
                                refine lv_iconst (v := (nI 1)) hx hb dL_holds_489 (by decide) ?_
                                obtain ⟨fs_490, hfs_490⟩ := hTT.rc
                                refine z_Vi_mo (As := [.int sm, .int (nI 1)]) (rest := []) C0 hP hS hl.1 (m_X4_cordsFor l _ hTT hs1 hs2 (by decide)) lk_L_84 hTT.n0 hfs_490 rfl rfl (Nat.le_of_ble_eq_true rfl) ⟨Nat.le_of_ble_eq_true rfl, Nat.le_of_ble_eq_true rfl⟩ rfl rfl ⟨Nat.zero_le _, Nat.zero_le _⟩ dL_holds_490 (fun r_490 g_14 H locs hP hS hp => ?_)
                                obtain ⟨hr_490, hTT, hF1⟩ := hp
                                subst hr_490
                                have hFr := hFr.tr (hF1.mono (by intro x9 hx9; first | (dsimp only [zOne, zRg, zCl] at hx9 ⊢; omega) | (dsimp only at hx9 ⊢; omega) | omega))
                                refine lv_iload hx hb dL_holds_493 (lv_at hl 4 rfl) ?_
                                refine lv_icmp_ne (tgt := 502) hx hb dL_holds_495 (by decide) (fun c_495 => absurd (for_is hI.1 hs1 hs2 1) c_495) (fun c_495 => ?_)
                                refine lv_iconst (v := 1) hx hb dL_holds_498 (by decide) ?_
                                refine lv_goto (tgt := 503) hx hb dL_holds_499 (by decide) ?_
                                exact z_zret C0 hP hS hr rfl (⟨rfl, hTT, hFr⟩) dL_holds_503
                              · have hk9 : kz < 127 := by have := z_ge_f (b := 128) c_379 (by omega) (by omega); omega
                                refine lv_iconst (v := 0) hx hb dL_holds_382 (by decide) ?_
                                refine z_topi (y := setT (cTold st) (nI (kz + 1)) 0) rfl ?_
                                refine lv_istore (lv' := [(13, .int (setT (cTold st) (nI (kz + 1)) 0)), (0, .ref (ad 0)), (1, .int xz), (8, .int 1), (10, .int sm), (11, .int (sfF st sm kz)), (12, .int (nI (kz + 1)))]) hx hb dL_holds_383 hl (by decide) rfl (fun ls hl => ?_)
                                refine lv_iconst (v := (nI 0)) hx hb dL_holds_385 (by decide) ?_
                                refine lv_istore (lv' := [(14, .int (nI 0)), (13, .int (setT (cTold st) (nI (kz + 1)) 0)), (0, .ref (ad 0)), (1, .int xz), (8, .int 1), (10, .int sm), (11, .int (sfF st sm kz)), (12, .int (nI (kz + 1)))]) hx hb dL_holds_386 hl (by decide) rfl (fun ls hl => ?_)
                                have lp_388 : ∀ (N : Nat) (cz : Nat) (hk3 : cz ≤ 7), 7 - cz < N → ∀ (H : Heap) (locs : List Loc) (ls : Array Slot), zP D K ad g (zA K ad s.heap.size) H → va_S (zA K ad s.heap.size) s.heap H locs → lv_has ls 15 [(0, .ref (ad 0)), (1, .int xz), (8, .int 1), (10, .int sm), (11, .int (sfF st sm kz)), (12, .int (nI (kz + 1))), (13, .int (setT (cTold st) (nI (kz + 1)) cz)), (14, .int (nI cz))] → W p l e ({ frames := 12, cells := 0, slots := 0, locals := 342 } : Room) s m [.ref (ad 0), .int xz].toArray below meth c H locs 0 0 (MQ below (va_Qi (fun r g1 => r = 1 ∧ isT cy K ad g1 st sv nx sz2 ns ss bu ln ∧ zFr zCl g g1) (zOut D cy K ad s.heap.size) (zA K ad s.heap.size)) [.ref (ad 0), .int xz].toArray s 0 0 (zA K ad s.heap.size)) (F0 m 388 ls []) := by
                                  intro N
                                  induction N with
                                  | zero => intro cz hk3 hN; exact absurd hN (Nat.not_lt_zero _)
                                  | succ N ih_388 =>
                                    intro cz hk3 hN H locs ls hP hS  hl
                                    refine lv_iload hx hb dL_holds_388 (lv_at hl 7 rfl) ?_
                                    refine lv_bipush (v := 7) hx hb dL_holds_390 (by decide) ?_
                                    refine lv_icmp_ge (tgt := 428) hx hb dL_holds_392 (by decide) (fun c_392 => ?_) (fun c_392 => ?_)
                                    · have hk2 : cz = 7 := by have := z_ge_t (b := 7) c_392 (by omega) (by omega); omega
                                      subst hk2
                                      refine lv_iload hx hb dL_holds_428 (lv_at hl 6 rfl) ?_
                                      refine lv_iload hx hb dL_holds_430 (lv_at hl 3 rfl) ?_
                                      refine lv_icmp_ne (tgt := 459) hx hb dL_holds_432 (by decide) (fun c_432 => ?_) (fun c_432 => ?_)
                                      · refine lv_iload hx hb dL_holds_459 (lv_at hl 4 rfl) ?_
                                        refine z_topi (y := sfF st sm (kz + 1)) (sf_a hk9 c_432) ?_
                                        refine lv_istore (lv' := [(11, .int (sfF st sm (kz + 1))), (0, .ref (ad 0)), (1, .int xz), (8, .int 1), (10, .int sm), (12, .int (nI (kz + 1))), (13, .int (setT (cTold st) (nI (kz + 1)) 7)), (14, .int (nI 7))]) hx hb dL_holds_461 hl (by decide) rfl (fun ls hl => ?_)
                                        refine lv_iinc (v := nI ((kz + 1) + 1)) (lv' := [(12, .int (nI ((kz + 1) + 1))), (11, .int (sfF st sm (kz + 1))), (0, .ref (ad 0)), (1, .int xz), (8, .int 1), (10, .int sm), (13, .int (setT (cTold st) (nI (kz + 1)) 7)), (14, .int (nI 7))]) hx hb dL_holds_463 hl (k := 5) rfl (z_inc _) (by decide) rfl (fun ls hl => ?_)
                                        refine lv_goto (tgt := 374) hx hb dL_holds_466 (by decide) ?_
                                        exact ih_374 (kz + 1) (by omega) (by omega) _ _ _ hP hS  (lv_sub hl [2, 3, 4, 5, 1, 0] rfl)
                                      · refine lv_iload hx hb dL_holds_435 (lv_at hl 4 rfl) ?_
                                        refine lv_iconst (v := (-1)) hx hb dL_holds_437 (by decide) ?_
                                        refine lv_icmp_eq (tgt := 454) hx hb dL_holds_438 (by decide) (fun c_438 => ?_) (fun c_438 => ?_)
                                        · refine lv_iload hx hb dL_holds_454 (lv_at hl 5 rfl) ?_
                                          refine lv_goto (tgt := 461) hx hb dL_holds_456 (by decide) ?_
                                          refine z_topi (y := sfF st sm (kz + 1)) (sf_b hk9 c_432 c_438) ?_
                                          refine lv_istore (lv' := [(11, .int (sfF st sm (kz + 1))), (0, .ref (ad 0)), (1, .int xz), (8, .int 1), (10, .int sm), (12, .int (nI (kz + 1))), (13, .int (setT (cTold st) (nI (kz + 1)) 7)), (14, .int (nI 7))]) hx hb dL_holds_461 hl (by decide) rfl (fun ls hl => ?_)
                                          refine lv_iinc (v := nI ((kz + 1) + 1)) (lv' := [(12, .int (nI ((kz + 1) + 1))), (11, .int (sfF st sm (kz + 1))), (0, .ref (ad 0)), (1, .int xz), (8, .int 1), (10, .int sm), (13, .int (setT (cTold st) (nI (kz + 1)) 7)), (14, .int (nI 7))]) hx hb dL_holds_463 hl (k := 5) rfl (z_inc _) (by decide) rfl (fun ls hl => ?_)
                                          refine lv_goto (tgt := 374) hx hb dL_holds_466 (by decide) ?_
                                          exact ih_374 (kz + 1) (by omega) (by omega) _ _ _ hP hS  (lv_sub hl [2, 3, 4, 5, 1, 0] rfl)
                                        · refine lv_iload hx hb dL_holds_441 (lv_at hl 5 rfl) ?_
                                          refine z_Si_eq (As := [.int (nI (kz + 1))]) (rest := []) C0 hP hS hl.1 (m_L_bits l _ ) lk_L_81 rfl rfl (Nat.le_of_ble_eq_true rfl) ⟨Nat.le_of_ble_eq_true rfl, Nat.le_of_ble_eq_true rfl⟩ rfl rfl ⟨Nat.zero_le _, Nat.zero_le _⟩ dL_holds_443 (fun H locs hP hS => ?_)
                                          refine lv_iload hx hb dL_holds_446 (lv_at hl 4 rfl) ?_
                                          refine z_Si_eq (As := [.int (sfF st sm kz)]) (rest := [.int (mnF (nI (kz + 1)))]) C0 hP hS hl.1 (m_L_bits l _ ) lk_L_81 rfl rfl (Nat.le_of_ble_eq_true rfl) ⟨Nat.le_of_ble_eq_true rfl, Nat.le_of_ble_eq_true rfl⟩ rfl rfl ⟨Nat.zero_le _, Nat.zero_le _⟩ dL_holds_448 (fun H locs hP hS => ?_)
                                          refine lv_icmp_ge (tgt := 459) hx hb dL_holds_451 (by decide) (fun c_451 => ?_) (fun c_451 => ?_)
                                          · refine lv_iload hx hb dL_holds_459 (lv_at hl 4 rfl) ?_
                                            refine z_topi (y := sfF st sm (kz + 1)) (sf_c hk9 c_432 c_438 c_451) ?_
                                            refine lv_istore (lv' := [(11, .int (sfF st sm (kz + 1))), (0, .ref (ad 0)), (1, .int xz), (8, .int 1), (10, .int sm), (12, .int (nI (kz + 1))), (13, .int (setT (cTold st) (nI (kz + 1)) 7)), (14, .int (nI 7))]) hx hb dL_holds_461 hl (by decide) rfl (fun ls hl => ?_)
                                            refine lv_iinc (v := nI ((kz + 1) + 1)) (lv' := [(12, .int (nI ((kz + 1) + 1))), (11, .int (sfF st sm (kz + 1))), (0, .ref (ad 0)), (1, .int xz), (8, .int 1), (10, .int sm), (13, .int (setT (cTold st) (nI (kz + 1)) 7)), (14, .int (nI 7))]) hx hb dL_holds_463 hl (k := 5) rfl (z_inc _) (by decide) rfl (fun ls hl => ?_)
                                            refine lv_goto (tgt := 374) hx hb dL_holds_466 (by decide) ?_
                                            exact ih_374 (kz + 1) (by omega) (by omega) _ _ _ hP hS  (lv_sub hl [2, 3, 4, 5, 1, 0] rfl)
                                          · refine lv_iload hx hb dL_holds_454 (lv_at hl 5 rfl) ?_
                                            refine lv_goto (tgt := 461) hx hb dL_holds_456 (by decide) ?_
                                            refine z_topi (y := sfF st sm (kz + 1)) (sf_d hk9 c_432 c_451) ?_
                                            refine lv_istore (lv' := [(11, .int (sfF st sm (kz + 1))), (0, .ref (ad 0)), (1, .int xz), (8, .int 1), (10, .int sm), (12, .int (nI (kz + 1))), (13, .int (setT (cTold st) (nI (kz + 1)) 7)), (14, .int (nI 7))]) hx hb dL_holds_461 hl (by decide) rfl (fun ls hl => ?_)
                                            refine lv_iinc (v := nI ((kz + 1) + 1)) (lv' := [(12, .int (nI ((kz + 1) + 1))), (11, .int (sfF st sm (kz + 1))), (0, .ref (ad 0)), (1, .int xz), (8, .int 1), (10, .int sm), (13, .int (setT (cTold st) (nI (kz + 1)) 7)), (14, .int (nI 7))]) hx hb dL_holds_463 hl (k := 5) rfl (z_inc _) (by decide) rfl (fun ls hl => ?_)
                                            refine lv_goto (tgt := 374) hx hb dL_holds_466 (by decide) ?_
                                            exact ih_374 (kz + 1) (by omega) (by omega) _ _ _ hP hS  (lv_sub hl [2, 3, 4, 5, 1, 0] rfl)
                                    · have hk2 : cz < 7 := z_ge_f (b := 7) c_392 (by omega) (by omega)
                                      refine lv_iload hx hb dL_holds_395 (lv_at hl 6 rfl) ?_
                                      refine lv_iload hx hb dL_holds_397 (lv_at hl 5 rfl) ?_
                                      refine lv_iload hx hb dL_holds_399 (lv_at hl 7 rfl) ?_
                                      refine lv_ishr hx hb dL_holds_401 ?_
                                      refine lv_iconst (v := 1) hx hb dL_holds_402 (by decide) ?_
                                      refine lv_iand hx hb dL_holds_403 ?_
                                      refine lv_iconst (v := 1) hx hb dL_holds_404 (by decide) ?_
                                      refine lv_icmp_ne (tgt := 418) hx hb dL_holds_405 (by decide) (fun c_405 => ?_) (fun c_405 => ?_)
                                      · refine lv_iconst (v := 0) hx hb dL_holds_418 (by decide) ?_
                                        refine lv_iadd hx hb dL_holds_419 ?_
                                        refine z_topi (y := setT (cTold st) (nI (kz + 1)) (cz + 1)) (set_T c_405) ?_
                                        refine lv_istore (lv' := [(13, .int (setT (cTold st) (nI (kz + 1)) (cz + 1))), (0, .ref (ad 0)), (1, .int xz), (8, .int 1), (10, .int sm), (11, .int (sfF st sm kz)), (12, .int (nI (kz + 1))), (14, .int (nI cz))]) hx hb dL_holds_420 hl (by decide) rfl (fun ls hl => ?_)
                                        refine lv_iinc (v := nI (cz + 1)) (lv' := [(14, .int (nI (cz + 1))), (13, .int (setT (cTold st) (nI (kz + 1)) (cz + 1))), (0, .ref (ad 0)), (1, .int xz), (8, .int 1), (10, .int sm), (11, .int (sfF st sm kz)), (12, .int (nI (kz + 1)))]) hx hb dL_holds_422 hl (k := 7) rfl (z_inc _) (by decide) rfl (fun ls hl => ?_)
                                        refine lv_goto (tgt := 388) hx hb dL_holds_425 (by decide) ?_
                                        exact ih_388 (cz + 1) (by omega) (by omega) _ _ _ hP hS  (lv_sub hl [2, 3, 4, 5, 6, 7, 1, 0] rfl)
                                      · refine lv_aload_n hx hb dL_holds_408 rfl (lv_at hl 0 rfl) ?_
                                        refine lv_iload hx hb dL_holds_409 (lv_at hl 7 rfl) ?_
                                        refine lv_iconst (v := (nI 0)) hx hb dL_holds_411 (by decide) ?_
                                        obtain ⟨fs_412, hfs_412⟩ := hTT.rc
                                        refine z_Vi_eq (As := [.int (nI cz), .int (nI 0)]) (rest := [.int (setT (cTold st) (nI (kz + 1)) cz)]) C0 hP hS hl.1 (m_X4_cordOf l _ hTT hk2 (by decide) hI.pc) lk_L_15 hTT.n0 hfs_412 rfl rfl (Nat.le_of_ble_eq_true rfl) ⟨Nat.le_of_ble_eq_true rfl, Nat.le_of_ble_eq_true rfl⟩ rfl rfl ⟨Nat.zero_le _, Nat.zero_le _⟩ dL_holds_412 (fun H locs hP hS => ?_)
                                        refine z_topi (y := cTold st cz) rfl ?_
                                        refine lv_goto (tgt := 419) hx hb dL_holds_415 (by decide) ?_
                                        refine lv_iadd hx hb dL_holds_419 ?_
                                        refine z_topi (y := setT (cTold st) (nI (kz + 1)) (cz + 1)) (set_F c_405) ?_
                                        refine lv_istore (lv' := [(13, .int (setT (cTold st) (nI (kz + 1)) (cz + 1))), (0, .ref (ad 0)), (1, .int xz), (8, .int 1), (10, .int sm), (11, .int (sfF st sm kz)), (12, .int (nI (kz + 1))), (14, .int (nI cz))]) hx hb dL_holds_420 hl (by decide) rfl (fun ls hl => ?_)
                                        refine lv_iinc (v := nI (cz + 1)) (lv' := [(14, .int (nI (cz + 1))), (13, .int (setT (cTold st) (nI (kz + 1)) (cz + 1))), (0, .ref (ad 0)), (1, .int xz), (8, .int 1), (10, .int sm), (11, .int (sfF st sm kz)), (12, .int (nI (kz + 1)))]) hx hb dL_holds_422 hl (k := 7) rfl (z_inc _) (by decide) rfl (fun ls hl => ?_)
                                        refine lv_goto (tgt := 388) hx hb dL_holds_425 (by decide) ?_
                                        exact ih_388 (cz + 1) (by omega) (by omega) _ _ _ hP hS  (lv_sub hl [2, 3, 4, 5, 6, 7, 1, 0] rfl)
                                exact lp_388 _ 0 (by decide) (Nat.lt_succ_self _) _ _ _ hP hS  (lv_sub hl [2, 3, 4, 5, 6, 7, 1, 0] rfl)
                          exact lp_374 _ 0 (by decide) (Nat.lt_succ_self _) _ _ _ hP hS  (lv_sub hl [3, 4, 5, 2, 1, 0] rfl)
                    · have hk2 : cz < 7 := z_ge_f (b := 7) c_298 (by omega) (by omega)
                      refine lv_iload hx hb dL_holds_301 (lv_at hl 4 rfl) ?_
                      refine lv_iload hx hb dL_holds_303 (lv_at hl 3 rfl) ?_
                      refine lv_iload hx hb dL_holds_305 (lv_at hl 5 rfl) ?_
                      refine lv_ishr hx hb dL_holds_307 ?_
                      refine lv_iconst (v := 1) hx hb dL_holds_308 (by decide) ?_
                      refine lv_iand hx hb dL_holds_309 ?_
                      refine lv_iconst (v := 1) hx hb dL_holds_310 (by decide) ?_
                      refine lv_icmp_ne (tgt := 324) hx hb dL_holds_311 (by decide) (fun c_311 => ?_) (fun c_311 => ?_)
                      · refine lv_iconst (v := 0) hx hb dL_holds_324 (by decide) ?_
                        refine lv_iadd hx hb dL_holds_325 ?_
                        refine z_topi (y := setT (cTold st) (nI (k7 + 1)) (cz + 1)) (set_T c_311) ?_
                        refine lv_istore (lv' := [(10, .int (setT (cTold st) (nI (k7 + 1)) (cz + 1))), (0, .ref (ad 0)), (1, .int xz), (8, .int 1), (9, .int (nI (k7 + 1))), (11, .int (nI cz))]) hx hb dL_holds_326 hl (by decide) rfl (fun ls hl => ?_)
                        refine lv_iinc (v := nI (cz + 1)) (lv' := [(11, .int (nI (cz + 1))), (10, .int (setT (cTold st) (nI (k7 + 1)) (cz + 1))), (0, .ref (ad 0)), (1, .int xz), (8, .int 1), (9, .int (nI (k7 + 1)))]) hx hb dL_holds_328 hl (k := 5) rfl (z_inc _) (by decide) rfl (fun ls hl => ?_)
                        refine lv_goto (tgt := 294) hx hb dL_holds_331 (by decide) ?_
                        exact ih_294 (cz + 1) (by omega) (by omega) _ _ _ hP hS  (lv_sub hl [2, 3, 4, 5, 1, 0] rfl)
                      · refine lv_aload_n hx hb dL_holds_314 rfl (lv_at hl 0 rfl) ?_
                        refine lv_iload hx hb dL_holds_315 (lv_at hl 5 rfl) ?_
                        refine lv_iconst (v := (nI 0)) hx hb dL_holds_317 (by decide) ?_
                        obtain ⟨fs_318, hfs_318⟩ := hTT.rc
                        refine z_Vi_eq (As := [.int (nI cz), .int (nI 0)]) (rest := [.int (setT (cTold st) (nI (k7 + 1)) cz)]) C0 hP hS hl.1 (m_X4_cordOf l _ hTT hk2 (by decide) hI.pc) lk_L_15 hTT.n0 hfs_318 rfl rfl (Nat.le_of_ble_eq_true rfl) ⟨Nat.le_of_ble_eq_true rfl, Nat.le_of_ble_eq_true rfl⟩ rfl rfl ⟨Nat.zero_le _, Nat.zero_le _⟩ dL_holds_318 (fun H locs hP hS => ?_)
                        refine z_topi (y := cTold st cz) rfl ?_
                        refine lv_goto (tgt := 325) hx hb dL_holds_321 (by decide) ?_
                        refine lv_iadd hx hb dL_holds_325 ?_
                        refine z_topi (y := setT (cTold st) (nI (k7 + 1)) (cz + 1)) (set_F c_311) ?_
                        refine lv_istore (lv' := [(10, .int (setT (cTold st) (nI (k7 + 1)) (cz + 1))), (0, .ref (ad 0)), (1, .int xz), (8, .int 1), (9, .int (nI (k7 + 1))), (11, .int (nI cz))]) hx hb dL_holds_326 hl (by decide) rfl (fun ls hl => ?_)
                        refine lv_iinc (v := nI (cz + 1)) (lv' := [(11, .int (nI (cz + 1))), (10, .int (setT (cTold st) (nI (k7 + 1)) (cz + 1))), (0, .ref (ad 0)), (1, .int xz), (8, .int 1), (9, .int (nI (k7 + 1)))]) hx hb dL_holds_328 hl (k := 5) rfl (z_inc _) (by decide) rfl (fun ls hl => ?_)
                        refine lv_goto (tgt := 294) hx hb dL_holds_331 (by decide) ?_
                        exact ih_294 (cz + 1) (by omega) (by omega) _ _ _ hP hS  (lv_sub hl [2, 3, 4, 5, 1, 0] rfl)
                exact lp_294 _ 0 (by decide) (Nat.lt_succ_self _) _ _ _ hP hS  (lv_sub hl [4, 5, 3, 2, 1, 0] rfl)
              · refine lv_dconst0 hx hb dL_holds_251 ?_
                refine lv_goto (tgt := 267) hx hb dL_holds_252 (by decide) ?_
                refine lv_dcmp hx hb dL_holds_267 ?_
                refine lv_if_ne (tgt := 275) hx hb dL_holds_268 (by decide) (fun c_268 => absurd (cmp_rf (sh_F c_248) (sha_ok _ _)) c_268) (fun c_268 => ?_)
                refine lv_iconst (v := 1) hx hb dL_holds_271 (by decide) ?_
                refine lv_goto (tgt := 276) hx hb dL_holds_272 (by decide) ?_
                refine lv_istore (lv' := [(8, .int 1), (0, .ref (ad 0)), (1, .int xz), (2, .int (sumN (cTold st) 7)), (3, .int (sumN (cTies st) 7)), (4, .int (sumN (allL st) 7)), (5, .int (sumN (lackN st) 7)), (6, .int (sumN (fun z => sumN (hueN st (nI z)) 7) 6)), (7, .int (nI (fuW st 7))), (9, .int (nI 6))]) hx hb dL_holds_276 hl (by decide) rfl (fun ls hl => ?_)
                refine lv_iconst (v := 1) hx hb dL_holds_278 (by decide) ?_
                refine lv_iload_n hx hb dL_holds_279 rfl (lv_at hl 2 rfl) ?_
                refine lv_bipush (v := (nI 127)) hx hb dL_holds_280 (by decide) ?_
                refine z_Si_eq (As := [.int xz, .int (nI 127)]) (rest := [.int 1]) C0 hP hS hl.1 (m_L_low l _ (by decide) (by decide)) lk_L_9 rfl rfl (Nat.le_of_ble_eq_true rfl) ⟨Nat.le_of_ble_eq_true rfl, Nat.le_of_ble_eq_true rfl⟩ rfl rfl ⟨Nat.zero_le _, Nat.zero_le _⟩ dL_holds_282 (fun H locs hP hS => ?_)
                refine lv_iadd hx hb dL_holds_285 ?_
                obtain ⟨k7, hk7, ek7⟩ := low1 xz (n := 127) (by decide) (by decide)
                refine z_topi (y := nI (k7 + 1)) ek7 ?_
                refine lv_istore (lv' := [(9, .int (nI (k7 + 1))), (8, .int 1), (0, .ref (ad 0)), (1, .int xz), (2, .int (sumN (cTold st) 7)), (3, .int (sumN (cTies st) 7)), (4, .int (sumN (allL st) 7)), (5, .int (sumN (lackN st) 7)), (6, .int (sumN (fun z => sumN (hueN st (nI z)) 7) 6)), (7, .int (nI (fuW st 7)))]) hx hb dL_holds_286 hl (by decide) rfl (fun ls hl => ?_)
                refine lv_iconst (v := 0) hx hb dL_holds_288 (by decide) ?_
                refine z_topi (y := setT (cTold st) (nI (k7 + 1)) 0) rfl ?_
                refine lv_istore (lv' := [(10, .int (setT (cTold st) (nI (k7 + 1)) 0)), (9, .int (nI (k7 + 1))), (8, .int 1), (0, .ref (ad 0)), (1, .int xz), (2, .int (sumN (cTold st) 7)), (3, .int (sumN (cTies st) 7)), (4, .int (sumN (allL st) 7)), (5, .int (sumN (lackN st) 7)), (6, .int (sumN (fun z => sumN (hueN st (nI z)) 7) 6)), (7, .int (nI (fuW st 7)))]) hx hb dL_holds_289 hl (by decide) rfl (fun ls hl => ?_)
                refine lv_iconst (v := (nI 0)) hx hb dL_holds_291 (by decide) ?_
                refine lv_istore (lv' := [(11, .int (nI 0)), (10, .int (setT (cTold st) (nI (k7 + 1)) 0)), (9, .int (nI (k7 + 1))), (8, .int 1), (0, .ref (ad 0)), (1, .int xz), (2, .int (sumN (cTold st) 7)), (3, .int (sumN (cTies st) 7)), (4, .int (sumN (allL st) 7)), (5, .int (sumN (lackN st) 7)), (6, .int (sumN (fun z => sumN (hueN st (nI z)) 7) 6)), (7, .int (nI (fuW st 7)))]) hx hb dL_holds_292 hl (by decide) rfl (fun ls hl => ?_)
                have lp_294 : ∀ (N : Nat) (cz : Nat) (hk : cz ≤ 7), 7 - cz < N → ∀ (H : Heap) (locs : List Loc) (ls : Array Slot), zP D K ad g (zA K ad s.heap.size) H → va_S (zA K ad s.heap.size) s.heap H locs → lv_has ls 15 [(0, .ref (ad 0)), (1, .int xz), (8, .int 1), (9, .int (nI (k7 + 1))), (10, .int (setT (cTold st) (nI (k7 + 1)) cz)), (11, .int (nI cz))] → W p l e ({ frames := 12, cells := 0, slots := 0, locals := 342 } : Room) s m [.ref (ad 0), .int xz].toArray below meth c H locs 0 0 (MQ below (va_Qi (fun r g1 => r = 1 ∧ isT cy K ad g1 st sv nx sz2 ns ss bu ln ∧ zFr zCl g g1) (zOut D cy K ad s.heap.size) (zA K ad s.heap.size)) [.ref (ad 0), .int xz].toArray s 0 0 (zA K ad s.heap.size)) (F0 m 294 ls []) := by
                  intro N
                  induction N with
                  | zero => intro cz hk hN; exact absurd hN (Nat.not_lt_zero _)
                  | succ N ih_294 =>
                    intro cz hk hN H locs ls hP hS  hl
                    refine lv_iload hx hb dL_holds_294 (lv_at hl 5 rfl) ?_
                    refine lv_bipush (v := 7) hx hb dL_holds_296 (by decide) ?_
                    refine lv_icmp_ge (tgt := 334) hx hb dL_holds_298 (by decide) (fun c_298 => ?_) (fun c_298 => ?_)
                    · have hk2 : cz = 7 := by have := z_ge_t (b := 7) c_298 (by omega) (by omega); omega
                      subst hk2
                      refine lv_iload hx hb dL_holds_334 (lv_at hl 4 rfl) ?_
                      refine lv_if_eq (tgt := 349) hx hb dL_holds_336 (by decide) (fun c_336 => ?_) (fun c_336 => ?_)
                      · refine lv_iconst (v := 1) hx hb dL_holds_349 (by decide) ?_
                        refine lv_iload_n hx hb dL_holds_350 rfl (lv_at hl 1 rfl) ?_
                        refine lv_bipush (v := 7) hx hb dL_holds_351 (by decide) ?_
                        refine lv_ishr hx hb dL_holds_353 ?_
                        refine lv_sipush (v := (nI 2000)) hx hb dL_holds_354 (by decide) ?_
                        refine z_Si_eq (As := [.int (xz >>> (7 &&& 31)), .int (nI 2000)]) (rest := [.int 1]) C0 hP hS hl.1 (m_L_low l _ (by decide) (by decide)) lk_L_9 rfl rfl (Nat.le_of_ble_eq_true rfl) ⟨Nat.le_of_ble_eq_true rfl, Nat.le_of_ble_eq_true rfl⟩ rfl rfl ⟨Nat.zero_le _, Nat.zero_le _⟩ dL_holds_357 (fun H locs hP hS => ?_)
                        refine lv_iadd hx hb dL_holds_360 ?_
                        refine lv_goto (tgt := 366) hx hb dL_holds_361 (by decide) ?_
                        obtain ⟨k8, hk8, ek8⟩ := low1 (xz >>> ((7 : Int32) &&& 31)) (n := 2000) (by decide) (by decide)
                        obtain ⟨sm, hsm⟩ : ∃ sm : Int32, (1 : Int32) + lowF (xz >>> ((7 : Int32) &&& 31)) 2000 = sm := ⟨_, rfl⟩
                        have hs1 : ¬ sm < 1 := by rw [← hsm, ek8]; exact (sum_ok2 hk8).1
                        have hs2 : sm ≤ 9999999 := by rw [← hsm, ek8]; exact (sum_ok2 hk8).2
                        refine z_topi (y := sm) hsm ?_
                        refine lv_istore (lv' := [(10, .int sm), (0, .ref (ad 0)), (1, .int xz), (8, .int 1), (9, .int (nI (k7 + 1))), (11, .int (nI 7))]) hx hb dL_holds_366 hl (by decide) rfl (fun ls hl => ?_)
                        refine lv_iconst (v := (-1)) hx hb dL_holds_368 (by decide) ?_
                        refine z_topi (y := sfF st sm 0) rfl ?_
                        refine lv_istore (lv' := [(11, .int (sfF st sm 0)), (10, .int sm), (0, .ref (ad 0)), (1, .int xz), (8, .int 1), (9, .int (nI (k7 + 1)))]) hx hb dL_holds_369 hl (by decide) rfl (fun ls hl => ?_)
                        refine lv_iconst (v := (nI (0 + 1))) hx hb dL_holds_371 (by decide) ?_
                        refine lv_istore (lv' := [(12, .int (nI (0 + 1))), (11, .int (sfF st sm 0)), (10, .int sm), (0, .ref (ad 0)), (1, .int xz), (8, .int 1), (9, .int (nI (k7 + 1)))]) hx hb dL_holds_372 hl (by decide) rfl (fun ls hl => ?_)
                        have lp_374 : ∀ (N : Nat) (kz : Nat) (hk : kz ≤ 127), 127 - kz < N → ∀ (H : Heap) (locs : List Loc) (ls : Array Slot), zP D K ad g (zA K ad s.heap.size) H → va_S (zA K ad s.heap.size) s.heap H locs → lv_has ls 15 [(0, .ref (ad 0)), (1, .int xz), (8, .int 1), (10, .int sm), (11, .int (sfF st sm kz)), (12, .int (nI (kz + 1)))] → W p l e ({ frames := 12, cells := 0, slots := 0, locals := 342 } : Room) s m [.ref (ad 0), .int xz].toArray below meth c H locs 0 0 (MQ below (va_Qi (fun r g1 => r = 1 ∧ isT cy K ad g1 st sv nx sz2 ns ss bu ln ∧ zFr zCl g g1) (zOut D cy K ad s.heap.size) (zA K ad s.heap.size)) [.ref (ad 0), .int xz].toArray s 0 0 (zA K ad s.heap.size)) (F0 m 374 ls []) := by
                          intro N
                          induction N with
                          | zero => intro kz hk hN; exact absurd hN (Nat.not_lt_zero _)
                          | succ N ih_374 =>
                            intro kz hk hN H locs ls hP hS  hl
                            refine lv_iload hx hb dL_holds_374 (lv_at hl 5 rfl) ?_
                            refine lv_sipush (v := 128) hx hb dL_holds_376 (by decide) ?_
                            refine lv_icmp_ge (tgt := 469) hx hb dL_holds_379 (by decide) (fun c_379 => ?_) (fun c_379 => ?_)
                            · have hk2 : kz = 127 := by have := z_ge_t (b := 128) c_379 (by omega) (by omega); omega
                              subst hk2
                              refine lv_iload hx hb dL_holds_469 (lv_at hl 2 rfl) ?_
                              refine lv_if_eq (tgt := 502) hx hb dL_holds_471 (by decide) (fun c_471 => absurd c_471 (by decide)) (fun c_471 => ?_)
                              refine lv_aload_n hx hb dL_holds_474 rfl (lv_at hl 0 rfl) ?_
                              refine lv_iload hx hb dL_holds_475 (lv_at hl 3 rfl) ?_
                              refine lv_iconst (v := (nI 0)) hx hb dL_holds_477 (by decide) ?_
                              obtain ⟨fs_478, hfs_478⟩ := hTT.rc
                              refine z_Vi_mo (As := [.int sm, .int (nI 0)]) (rest := []) C0 hP hS hl.1 (m_X4_cordsFor l _ hTT hs1 hs2 (by decide)) lk_L_84 hTT.n0 hfs_478 rfl rfl (Nat.le_of_ble_eq_true rfl) ⟨Nat.le_of_ble_eq_true rfl, Nat.le_of_ble_eq_true rfl⟩ rfl rfl ⟨Nat.zero_le _, Nat.zero_le _⟩ dL_holds_478 (fun r_478 g_18 H locs hP hS hp => ?_)
                              obtain ⟨hr_478, hTT, hF1⟩ := hp
                              subst hr_478
                              have hFr := hFr.tr (hF1.mono (by intro x9 hx9; first | (dsimp only [zOne, zRg, zCl] at hx9 ⊢; omega) | (dsimp only at hx9 ⊢; omega) | omega))
                              refine lv_iload hx hb dL_holds_481 (lv_at hl 4 rfl) ?_
                              refine lv_icmp_ne (tgt := 502) hx hb dL_holds_483 (by decide) (fun c_483 => absurd (for_is hI.1 hs1 hs2 0) c_483) (fun c_483 => ?_)
                              refine lv_aload_n hx hb dL_holds_486 rfl (lv_at hl 0 rfl) ?_
                              refine lv_iload hx hb dL_holds_487 (lv_at hl 3 rfl) ?_
                              refine lv_iconst (v := (nI 1)) hx hb dL_holds_489 (by decide) ?_
                              obtain ⟨fs_490, hfs_490⟩ := hTT.rc
                              refine z_Vi_mo (As := [.int sm, .int (nI 1)]) (rest := []) C0 hP hS hl.1 (m_X4_cordsFor l _ hTT hs1 hs2 (by decide)) lk_L_84 hTT.n0 hfs_490 rfl rfl (Nat.le_of_ble_eq_true rfl) ⟨Nat.le_of_ble_eq_true rfl, Nat.le_of_ble_eq_true rfl⟩ rfl rfl ⟨Nat.zero_le _, Nat.zero_le _⟩ dL_holds_490 (fun r_490 g_19 H locs hP hS hp => ?_)
                              obtain ⟨hr_490, hTT, hF1⟩ := hp
                              subst hr_490
                              have hFr := hFr.tr (hF1.mono (by intro x9 hx9; first | (dsimp only [zOne, zRg, zCl] at hx9 ⊢; omega) | (dsimp only at hx9 ⊢; omega) | omega))
                              refine lv_iload hx hb dL_holds_493 (lv_at hl 4 rfl) ?_
                              refine lv_icmp_ne (tgt := 502) hx hb dL_holds_495 (by decide) (fun c_495 => absurd (for_is hI.1 hs1 hs2 1) c_495) (fun c_495 => ?_)
                              refine lv_iconst (v := 1) hx hb dL_holds_498 (by decide) ?_
                              refine lv_goto (tgt := 503) hx hb dL_holds_499 (by decide) ?_
                              exact z_zret C0 hP hS hr rfl (⟨rfl, hTT, hFr⟩) dL_holds_503
                            · have hk9 : kz < 127 := by have := z_ge_f (b := 128) c_379 (by omega) (by omega); omega
                              refine lv_iconst (v := 0) hx hb dL_holds_382 (by decide) ?_
                              refine z_topi (y := setT (cTold st) (nI (kz + 1)) 0) rfl ?_
                              refine lv_istore (lv' := [(13, .int (setT (cTold st) (nI (kz + 1)) 0)), (0, .ref (ad 0)), (1, .int xz), (8, .int 1), (10, .int sm), (11, .int (sfF st sm kz)), (12, .int (nI (kz + 1)))]) hx hb dL_holds_383 hl (by decide) rfl (fun ls hl => ?_)
                              refine lv_iconst (v := (nI 0)) hx hb dL_holds_385 (by decide) ?_
                              refine lv_istore (lv' := [(14, .int (nI 0)), (13, .int (setT (cTold st) (nI (kz + 1)) 0)), (0, .ref (ad 0)), (1, .int xz), (8, .int 1), (10, .int sm), (11, .int (sfF st sm kz)), (12, .int (nI (kz + 1)))]) hx hb dL_holds_386 hl (by decide) rfl (fun ls hl => ?_)
                              have lp_388 : ∀ (N : Nat) (cz : Nat) (hk3 : cz ≤ 7), 7 - cz < N → ∀ (H : Heap) (locs : List Loc) (ls : Array Slot), zP D K ad g (zA K ad s.heap.size) H → va_S (zA K ad s.heap.size) s.heap H locs → lv_has ls 15 [(0, .ref (ad 0)), (1, .int xz), (8, .int 1), (10, .int sm), (11, .int (sfF st sm kz)), (12, .int (nI (kz + 1))), (13, .int (setT (cTold st) (nI (kz + 1)) cz)), (14, .int (nI cz))] → W p l e ({ frames := 12, cells := 0, slots := 0, locals := 342 } : Room) s m [.ref (ad 0), .int xz].toArray below meth c H locs 0 0 (MQ below (va_Qi (fun r g1 => r = 1 ∧ isT cy K ad g1 st sv nx sz2 ns ss bu ln ∧ zFr zCl g g1) (zOut D cy K ad s.heap.size) (zA K ad s.heap.size)) [.ref (ad 0), .int xz].toArray s 0 0 (zA K ad s.heap.size)) (F0 m 388 ls []) := by
                                intro N
                                induction N with
                                | zero => intro cz hk3 hN; exact absurd hN (Nat.not_lt_zero _)
                                | succ N ih_388 =>
                                  intro cz hk3 hN H locs ls hP hS  hl
                                  refine lv_iload hx hb dL_holds_388 (lv_at hl 7 rfl) ?_
                                  refine lv_bipush (v := 7) hx hb dL_holds_390 (by decide) ?_
                                  refine lv_icmp_ge (tgt := 428) hx hb dL_holds_392 (by decide) (fun c_392 => ?_) (fun c_392 => ?_)
                                  · have hk2 : cz = 7 := by have := z_ge_t (b := 7) c_392 (by omega) (by omega); omega
                                    subst hk2
                                    refine lv_iload hx hb dL_holds_428 (lv_at hl 6 rfl) ?_
                                    refine lv_iload hx hb dL_holds_430 (lv_at hl 3 rfl) ?_
                                    refine lv_icmp_ne (tgt := 459) hx hb dL_holds_432 (by decide) (fun c_432 => ?_) (fun c_432 => ?_)
                                    · refine lv_iload hx hb dL_holds_459 (lv_at hl 4 rfl) ?_
                                      refine z_topi (y := sfF st sm (kz + 1)) (sf_a hk9 c_432) ?_
                                      refine lv_istore (lv' := [(11, .int (sfF st sm (kz + 1))), (0, .ref (ad 0)), (1, .int xz), (8, .int 1), (10, .int sm), (12, .int (nI (kz + 1))), (13, .int (setT (cTold st) (nI (kz + 1)) 7)), (14, .int (nI 7))]) hx hb dL_holds_461 hl (by decide) rfl (fun ls hl => ?_)
                                      refine lv_iinc (v := nI ((kz + 1) + 1)) (lv' := [(12, .int (nI ((kz + 1) + 1))), (11, .int (sfF st sm (kz + 1))), (0, .ref (ad 0)), (1, .int xz), (8, .int 1), (10, .int sm), (13, .int (setT (cTold st) (nI (kz + 1)) 7)), (14, .int (nI 7))]) hx hb dL_holds_463 hl (k := 5) rfl (z_inc _) (by decide) rfl (fun ls hl => ?_)
                                      refine lv_goto (tgt := 374) hx hb dL_holds_466 (by decide) ?_
                                      exact ih_374 (kz + 1) (by omega) (by omega) _ _ _ hP hS  (lv_sub hl [2, 3, 4, 5, 1, 0] rfl)
                                    · refine lv_iload hx hb dL_holds_435 (lv_at hl 4 rfl) ?_
                                      refine lv_iconst (v := (-1)) hx hb dL_holds_437 (by decide) ?_
                                      refine lv_icmp_eq (tgt := 454) hx hb dL_holds_438 (by decide) (fun c_438 => ?_) (fun c_438 => ?_)
                                      · refine lv_iload hx hb dL_holds_454 (lv_at hl 5 rfl) ?_
                                        refine lv_goto (tgt := 461) hx hb dL_holds_456 (by decide) ?_
                                        refine z_topi (y := sfF st sm (kz + 1)) (sf_b hk9 c_432 c_438) ?_
                                        refine lv_istore (lv' := [(11, .int (sfF st sm (kz + 1))), (0, .ref (ad 0)), (1, .int xz), (8, .int 1), (10, .int sm), (12, .int (nI (kz + 1))), (13, .int (setT (cTold st) (nI (kz + 1)) 7)), (14, .int (nI 7))]) hx hb dL_holds_461 hl (by decide) rfl (fun ls hl => ?_)
                                        refine lv_iinc (v := nI ((kz + 1) + 1)) (lv' := [(12, .int (nI ((kz + 1) + 1))), (11, .int (sfF st sm (kz + 1))), (0, .ref (ad 0)), (1, .int xz), (8, .int 1), (10, .int sm), (13, .int (setT (cTold st) (nI (kz + 1)) 7)), (14, .int (nI 7))]) hx hb dL_holds_463 hl (k := 5) rfl (z_inc _) (by decide) rfl (fun ls hl => ?_)
                                        refine lv_goto (tgt := 374) hx hb dL_holds_466 (by decide) ?_
                                        exact ih_374 (kz + 1) (by omega) (by omega) _ _ _ hP hS  (lv_sub hl [2, 3, 4, 5, 1, 0] rfl)
                                      · refine lv_iload hx hb dL_holds_441 (lv_at hl 5 rfl) ?_
                                        refine z_Si_eq (As := [.int (nI (kz + 1))]) (rest := []) C0 hP hS hl.1 (m_L_bits l _ ) lk_L_81 rfl rfl (Nat.le_of_ble_eq_true rfl) ⟨Nat.le_of_ble_eq_true rfl, Nat.le_of_ble_eq_true rfl⟩ rfl rfl ⟨Nat.zero_le _, Nat.zero_le _⟩ dL_holds_443 (fun H locs hP hS => ?_)
                                        refine lv_iload hx hb dL_holds_446 (lv_at hl 4 rfl) ?_
                                        refine z_Si_eq (As := [.int (sfF st sm kz)]) (rest := [.int (mnF (nI (kz + 1)))]) C0 hP hS hl.1 (m_L_bits l _ ) lk_L_81 rfl rfl (Nat.le_of_ble_eq_true rfl) ⟨Nat.le_of_ble_eq_true rfl, Nat.le_of_ble_eq_true rfl⟩ rfl rfl ⟨Nat.zero_le _, Nat.zero_le _⟩ dL_holds_448 (fun H locs hP hS => ?_)
                                        refine lv_icmp_ge (tgt := 459) hx hb dL_holds_451 (by decide) (fun c_451 => ?_) (fun c_451 => ?_)
                                        · refine lv_iload hx hb dL_holds_459 (lv_at hl 4 rfl) ?_
                                          refine z_topi (y := sfF st sm (kz + 1)) (sf_c hk9 c_432 c_438 c_451) ?_
                                          refine lv_istore (lv' := [(11, .int (sfF st sm (kz + 1))), (0, .ref (ad 0)), (1, .int xz), (8, .int 1), (10, .int sm), (12, .int (nI (kz + 1))), (13, .int (setT (cTold st) (nI (kz + 1)) 7)), (14, .int (nI 7))]) hx hb dL_holds_461 hl (by decide) rfl (fun ls hl => ?_)
                                          refine lv_iinc (v := nI ((kz + 1) + 1)) (lv' := [(12, .int (nI ((kz + 1) + 1))), (11, .int (sfF st sm (kz + 1))), (0, .ref (ad 0)), (1, .int xz), (8, .int 1), (10, .int sm), (13, .int (setT (cTold st) (nI (kz + 1)) 7)), (14, .int (nI 7))]) hx hb dL_holds_463 hl (k := 5) rfl (z_inc _) (by decide) rfl (fun ls hl => ?_)
                                          refine lv_goto (tgt := 374) hx hb dL_holds_466 (by decide) ?_
                                          exact ih_374 (kz + 1) (by omega) (by omega) _ _ _ hP hS  (lv_sub hl [2, 3, 4, 5, 1, 0] rfl)
                                        · refine lv_iload hx hb dL_holds_454 (lv_at hl 5 rfl) ?_
                                          refine lv_goto (tgt := 461) hx hb dL_holds_456 (by decide) ?_
                                          refine z_topi (y := sfF st sm (kz + 1)) (sf_d hk9 c_432 c_451) ?_
                                          refine lv_istore (lv' := [(11, .int (sfF st sm (kz + 1))), (0, .ref (ad 0)), (1, .int xz), (8, .int 1), (10, .int sm), (12, .int (nI (kz + 1))), (13, .int (setT (cTold st) (nI (kz + 1)) 7)), (14, .int (nI 7))]) hx hb dL_holds_461 hl (by decide) rfl (fun ls hl => ?_)
                                          refine lv_iinc (v := nI ((kz + 1) + 1)) (lv' := [(12, .int (nI ((kz + 1) + 1))), (11, .int (sfF st sm (kz + 1))), (0, .ref (ad 0)), (1, .int xz), (8, .int 1), (10, .int sm), (13, .int (setT (cTold st) (nI (kz + 1)) 7)), (14, .int (nI 7))]) hx hb dL_holds_463 hl (k := 5) rfl (z_inc _) (by decide) rfl (fun ls hl => ?_)
                                          refine lv_goto (tgt := 374) hx hb dL_holds_466 (by decide) ?_
                                          exact ih_374 (kz + 1) (by omega) (by omega) _ _ _ hP hS  (lv_sub hl [2, 3, 4, 5, 1, 0] rfl)
                                  · have hk2 : cz < 7 := z_ge_f (b := 7) c_392 (by omega) (by omega)
                                    refine lv_iload hx hb dL_holds_395 (lv_at hl 6 rfl) ?_
                                    refine lv_iload hx hb dL_holds_397 (lv_at hl 5 rfl) ?_
                                    refine lv_iload hx hb dL_holds_399 (lv_at hl 7 rfl) ?_
                                    refine lv_ishr hx hb dL_holds_401 ?_
                                    refine lv_iconst (v := 1) hx hb dL_holds_402 (by decide) ?_
                                    refine lv_iand hx hb dL_holds_403 ?_
                                    refine lv_iconst (v := 1) hx hb dL_holds_404 (by decide) ?_
                                    refine lv_icmp_ne (tgt := 418) hx hb dL_holds_405 (by decide) (fun c_405 => ?_) (fun c_405 => ?_)
                                    · refine lv_iconst (v := 0) hx hb dL_holds_418 (by decide) ?_
                                      refine lv_iadd hx hb dL_holds_419 ?_
                                      refine z_topi (y := setT (cTold st) (nI (kz + 1)) (cz + 1)) (set_T c_405) ?_
                                      refine lv_istore (lv' := [(13, .int (setT (cTold st) (nI (kz + 1)) (cz + 1))), (0, .ref (ad 0)), (1, .int xz), (8, .int 1), (10, .int sm), (11, .int (sfF st sm kz)), (12, .int (nI (kz + 1))), (14, .int (nI cz))]) hx hb dL_holds_420 hl (by decide) rfl (fun ls hl => ?_)
                                      refine lv_iinc (v := nI (cz + 1)) (lv' := [(14, .int (nI (cz + 1))), (13, .int (setT (cTold st) (nI (kz + 1)) (cz + 1))), (0, .ref (ad 0)), (1, .int xz), (8, .int 1), (10, .int sm), (11, .int (sfF st sm kz)), (12, .int (nI (kz + 1)))]) hx hb dL_holds_422 hl (k := 7) rfl (z_inc _) (by decide) rfl (fun ls hl => ?_)
                                      refine lv_goto (tgt := 388) hx hb dL_holds_425 (by decide) ?_
                                      exact ih_388 (cz + 1) (by omega) (by omega) _ _ _ hP hS  (lv_sub hl [2, 3, 4, 5, 6, 7, 1, 0] rfl)
                                    · refine lv_aload_n hx hb dL_holds_408 rfl (lv_at hl 0 rfl) ?_
                                      refine lv_iload hx hb dL_holds_409 (lv_at hl 7 rfl) ?_
                                      refine lv_iconst (v := (nI 0)) hx hb dL_holds_411 (by decide) ?_
                                      obtain ⟨fs_412, hfs_412⟩ := hTT.rc
                                      refine z_Vi_eq (As := [.int (nI cz), .int (nI 0)]) (rest := [.int (setT (cTold st) (nI (kz + 1)) cz)]) C0 hP hS hl.1 (m_X4_cordOf l _ hTT hk2 (by decide) hI.pc) lk_L_15 hTT.n0 hfs_412 rfl rfl (Nat.le_of_ble_eq_true rfl) ⟨Nat.le_of_ble_eq_true rfl, Nat.le_of_ble_eq_true rfl⟩ rfl rfl ⟨Nat.zero_le _, Nat.zero_le _⟩ dL_holds_412 (fun H locs hP hS => ?_)
                                      refine z_topi (y := cTold st cz) rfl ?_
                                      refine lv_goto (tgt := 419) hx hb dL_holds_415 (by decide) ?_
                                      refine lv_iadd hx hb dL_holds_419 ?_
                                      refine z_topi (y := setT (cTold st) (nI (kz + 1)) (cz + 1)) (set_F c_405) ?_
                                      refine lv_istore (lv' := [(13, .int (setT (cTold st) (nI (kz + 1)) (cz + 1))), (0, .ref (ad 0)), (1, .int xz), (8, .int 1), (10, .int sm), (11, .int (sfF st sm kz)), (12, .int (nI (kz + 1))), (14, .int (nI cz))]) hx hb dL_holds_420 hl (by decide) rfl (fun ls hl => ?_)
                                      refine lv_iinc (v := nI (cz + 1)) (lv' := [(14, .int (nI (cz + 1))), (13, .int (setT (cTold st) (nI (kz + 1)) (cz + 1))), (0, .ref (ad 0)), (1, .int xz), (8, .int 1), (10, .int sm), (11, .int (sfF st sm kz)), (12, .int (nI (kz + 1)))]) hx hb dL_holds_422 hl (k := 7) rfl (z_inc _) (by decide) rfl (fun ls hl => ?_)
                                      refine lv_goto (tgt := 388) hx hb dL_holds_425 (by decide) ?_
                                      exact ih_388 (cz + 1) (by omega) (by omega) _ _ _ hP hS  (lv_sub hl [2, 3, 4, 5, 6, 7, 1, 0] rfl)
                              exact lp_388 _ 0 (by decide) (Nat.lt_succ_self _) _ _ _ hP hS  (lv_sub hl [2, 3, 4, 5, 6, 7, 1, 0] rfl)
                        exact lp_374 _ 0 (by decide) (Nat.lt_succ_self _) _ _ _ hP hS  (lv_sub hl [3, 4, 5, 2, 1, 0] rfl)
                      · refine lv_iload_n hx hb dL_holds_339 rfl (lv_at hl 1 rfl) ?_
                        refine lv_bipush (v := 7) hx hb dL_holds_340 (by decide) ?_
                        refine lv_ishr hx hb dL_holds_342 ?_
                        refine lv_bipush (v := 7) hx hb dL_holds_343 (by decide) ?_
                        refine lv_iand hx hb dL_holds_345 ?_
                        refine lv_if_ne (tgt := 364) hx hb dL_holds_346 (by decide) (fun c_346 => ?_) (fun c_346 => ?_)
                        · refine lv_iload hx hb dL_holds_364 (lv_at hl 4 rfl) ?_
                          have hs9 := set_rng hI.1 (m := k7 + 1) (by omega)
                          obtain ⟨sm, hsm⟩ : ∃ sm : Int32, (setT (cTold st) (nI (k7 + 1)) 7 : Int32) = sm := ⟨_, rfl⟩
                          have hs1 : ¬ sm < 1 := by rw [← hsm]; exact (sum_ok hs9.1 hs9.2 c_336).1
                          have hs2 : sm ≤ 9999999 := by rw [← hsm]; exact (sum_ok hs9.1 hs9.2 c_336).2
                          refine z_topi (y := sm) hsm ?_
                          refine lv_istore (lv' := [(10, .int sm), (0, .ref (ad 0)), (1, .int xz), (8, .int 1), (9, .int (nI (k7 + 1))), (11, .int (nI 7))]) hx hb dL_holds_366 hl (by decide) rfl (fun ls hl => ?_)
                          refine lv_iconst (v := (-1)) hx hb dL_holds_368 (by decide) ?_
                          refine z_topi (y := sfF st sm 0) rfl ?_
                          refine lv_istore (lv' := [(11, .int (sfF st sm 0)), (10, .int sm), (0, .ref (ad 0)), (1, .int xz), (8, .int 1), (9, .int (nI (k7 + 1)))]) hx hb dL_holds_369 hl (by decide) rfl (fun ls hl => ?_)
                          refine lv_iconst (v := (nI (0 + 1))) hx hb dL_holds_371 (by decide) ?_
                          refine lv_istore (lv' := [(12, .int (nI (0 + 1))), (11, .int (sfF st sm 0)), (10, .int sm), (0, .ref (ad 0)), (1, .int xz), (8, .int 1), (9, .int (nI (k7 + 1)))]) hx hb dL_holds_372 hl (by decide) rfl (fun ls hl => ?_)
                          have lp_374 : ∀ (N : Nat) (kz : Nat) (hk : kz ≤ 127), 127 - kz < N → ∀ (H : Heap) (locs : List Loc) (ls : Array Slot), zP D K ad g (zA K ad s.heap.size) H → va_S (zA K ad s.heap.size) s.heap H locs → lv_has ls 15 [(0, .ref (ad 0)), (1, .int xz), (8, .int 1), (10, .int sm), (11, .int (sfF st sm kz)), (12, .int (nI (kz + 1)))] → W p l e ({ frames := 12, cells := 0, slots := 0, locals := 342 } : Room) s m [.ref (ad 0), .int xz].toArray below meth c H locs 0 0 (MQ below (va_Qi (fun r g1 => r = 1 ∧ isT cy K ad g1 st sv nx sz2 ns ss bu ln ∧ zFr zCl g g1) (zOut D cy K ad s.heap.size) (zA K ad s.heap.size)) [.ref (ad 0), .int xz].toArray s 0 0 (zA K ad s.heap.size)) (F0 m 374 ls []) := by
                            intro N
                            induction N with
                            | zero => intro kz hk hN; exact absurd hN (Nat.not_lt_zero _)
                            | succ N ih_374 =>
                              intro kz hk hN H locs ls hP hS  hl
                              refine lv_iload hx hb dL_holds_374 (lv_at hl 5 rfl) ?_
                              refine lv_sipush (v := 128) hx hb dL_holds_376 (by decide) ?_
                              refine lv_icmp_ge (tgt := 469) hx hb dL_holds_379 (by decide) (fun c_379 => ?_) (fun c_379 => ?_)
                              · have hk2 : kz = 127 := by have := z_ge_t (b := 128) c_379 (by omega) (by omega); omega
                                subst hk2
                                refine lv_iload hx hb dL_holds_469 (lv_at hl 2 rfl) ?_
                                refine lv_if_eq (tgt := 502) hx hb dL_holds_471 (by decide) (fun c_471 => absurd c_471 (by decide)) (fun c_471 => ?_)
                                refine lv_aload_n hx hb dL_holds_474 rfl (lv_at hl 0 rfl) ?_
                                refine lv_iload hx hb dL_holds_475 (lv_at hl 3 rfl) ?_
                                refine lv_iconst (v := (nI 0)) hx hb dL_holds_477 (by decide) ?_
                                obtain ⟨fs_478, hfs_478⟩ := hTT.rc
                                refine z_Vi_mo (As := [.int sm, .int (nI 0)]) (rest := []) C0 hP hS hl.1 (m_X4_cordsFor l _ hTT hs1 hs2 (by decide)) lk_L_84 hTT.n0 hfs_478 rfl rfl (Nat.le_of_ble_eq_true rfl) ⟨Nat.le_of_ble_eq_true rfl, Nat.le_of_ble_eq_true rfl⟩ rfl rfl ⟨Nat.zero_le _, Nat.zero_le _⟩ dL_holds_478 (fun r_478 g_22 H locs hP hS hp => ?_)
                                obtain ⟨hr_478, hTT, hF1⟩ := hp
                                subst hr_478
                                have hFr := hFr.tr (hF1.mono (by intro x9 hx9; first | (dsimp only [zOne, zRg, zCl] at hx9 ⊢; omega) | (dsimp only at hx9 ⊢; omega) | omega))
                                refine lv_iload hx hb dL_holds_481 (lv_at hl 4 rfl) ?_
                                refine lv_icmp_ne (tgt := 502) hx hb dL_holds_483 (by decide) (fun c_483 => absurd (for_is hI.1 hs1 hs2 0) c_483) (fun c_483 => ?_)
                                refine lv_aload_n hx hb dL_holds_486 rfl (lv_at hl 0 rfl) ?_
                                refine lv_iload hx hb dL_holds_487 (lv_at hl 3 rfl) ?_
                                refine lv_iconst (v := (nI 1)) hx hb dL_holds_489 (by decide) ?_
                                obtain ⟨fs_490, hfs_490⟩ := hTT.rc
                                refine z_Vi_mo (As := [.int sm, .int (nI 1)]) (rest := []) C0 hP hS hl.1 (m_X4_cordsFor l _ hTT hs1 hs2 (by decide)) lk_L_84 hTT.n0 hfs_490 rfl rfl (Nat.le_of_ble_eq_true rfl) ⟨Nat.le_of_ble_eq_true rfl, Nat.le_of_ble_eq_true rfl⟩ rfl rfl ⟨Nat.zero_le _, Nat.zero_le _⟩ dL_holds_490 (fun r_490 g_23 H locs hP hS hp => ?_)
                                obtain ⟨hr_490, hTT, hF1⟩ := hp
                                subst hr_490
                                have hFr := hFr.tr (hF1.mono (by intro x9 hx9; first | (dsimp only [zOne, zRg, zCl] at hx9 ⊢; omega) | (dsimp only at hx9 ⊢; omega) | omega))
                                refine lv_iload hx hb dL_holds_493 (lv_at hl 4 rfl) ?_
                                refine lv_icmp_ne (tgt := 502) hx hb dL_holds_495 (by decide) (fun c_495 => absurd (for_is hI.1 hs1 hs2 1) c_495) (fun c_495 => ?_)
                                refine lv_iconst (v := 1) hx hb dL_holds_498 (by decide) ?_
                                refine lv_goto (tgt := 503) hx hb dL_holds_499 (by decide) ?_
                                exact z_zret C0 hP hS hr rfl (⟨rfl, hTT, hFr⟩) dL_holds_503
                              · have hk9 : kz < 127 := by have := z_ge_f (b := 128) c_379 (by omega) (by omega); omega
                                refine lv_iconst (v := 0) hx hb dL_holds_382 (by decide) ?_
                                refine z_topi (y := setT (cTold st) (nI (kz + 1)) 0) rfl ?_
                                refine lv_istore (lv' := [(13, .int (setT (cTold st) (nI (kz + 1)) 0)), (0, .ref (ad 0)), (1, .int xz), (8, .int 1), (10, .int sm), (11, .int (sfF st sm kz)), (12, .int (nI (kz + 1)))]) hx hb dL_holds_383 hl (by decide) rfl (fun ls hl => ?_)
                                refine lv_iconst (v := (nI 0)) hx hb dL_holds_385 (by decide) ?_
                                refine lv_istore (lv' := [(14, .int (nI 0)), (13, .int (setT (cTold st) (nI (kz + 1)) 0)), (0, .ref (ad 0)), (1, .int xz), (8, .int 1), (10, .int sm), (11, .int (sfF st sm kz)), (12, .int (nI (kz + 1)))]) hx hb dL_holds_386 hl (by decide) rfl (fun ls hl => ?_)
                                have lp_388 : ∀ (N : Nat) (cz : Nat) (hk3 : cz ≤ 7), 7 - cz < N → ∀ (H : Heap) (locs : List Loc) (ls : Array Slot), zP D K ad g (zA K ad s.heap.size) H → va_S (zA K ad s.heap.size) s.heap H locs → lv_has ls 15 [(0, .ref (ad 0)), (1, .int xz), (8, .int 1), (10, .int sm), (11, .int (sfF st sm kz)), (12, .int (nI (kz + 1))), (13, .int (setT (cTold st) (nI (kz + 1)) cz)), (14, .int (nI cz))] → W p l e ({ frames := 12, cells := 0, slots := 0, locals := 342 } : Room) s m [.ref (ad 0), .int xz].toArray below meth c H locs 0 0 (MQ below (va_Qi (fun r g1 => r = 1 ∧ isT cy K ad g1 st sv nx sz2 ns ss bu ln ∧ zFr zCl g g1) (zOut D cy K ad s.heap.size) (zA K ad s.heap.size)) [.ref (ad 0), .int xz].toArray s 0 0 (zA K ad s.heap.size)) (F0 m 388 ls []) := by
                                  intro N
                                  induction N with
                                  | zero => intro cz hk3 hN; exact absurd hN (Nat.not_lt_zero _)
                                  | succ N ih_388 =>
                                    intro cz hk3 hN H locs ls hP hS  hl
                                    refine lv_iload hx hb dL_holds_388 (lv_at hl 7 rfl) ?_
                                    refine lv_bipush (v := 7) hx hb dL_holds_390 (by decide) ?_
                                    refine lv_icmp_ge (tgt := 428) hx hb dL_holds_392 (by decide) (fun c_392 => ?_) (fun c_392 => ?_)
                                    · have hk2 : cz = 7 := by have := z_ge_t (b := 7) c_392 (by omega) (by omega); omega
                                      subst hk2
                                      refine lv_iload hx hb dL_holds_428 (lv_at hl 6 rfl) ?_
                                      refine lv_iload hx hb dL_holds_430 (lv_at hl 3 rfl) ?_
                                      refine lv_icmp_ne (tgt := 459) hx hb dL_holds_432 (by decide) (fun c_432 => ?_) (fun c_432 => ?_)
                                      · refine lv_iload hx hb dL_holds_459 (lv_at hl 4 rfl) ?_
                                        refine z_topi (y := sfF st sm (kz + 1)) (sf_a hk9 c_432) ?_
                                        refine lv_istore (lv' := [(11, .int (sfF st sm (kz + 1))), (0, .ref (ad 0)), (1, .int xz), (8, .int 1), (10, .int sm), (12, .int (nI (kz + 1))), (13, .int (setT (cTold st) (nI (kz + 1)) 7)), (14, .int (nI 7))]) hx hb dL_holds_461 hl (by decide) rfl (fun ls hl => ?_)
                                        refine lv_iinc (v := nI ((kz + 1) + 1)) (lv' := [(12, .int (nI ((kz + 1) + 1))), (11, .int (sfF st sm (kz + 1))), (0, .ref (ad 0)), (1, .int xz), (8, .int 1), (10, .int sm), (13, .int (setT (cTold st) (nI (kz + 1)) 7)), (14, .int (nI 7))]) hx hb dL_holds_463 hl (k := 5) rfl (z_inc _) (by decide) rfl (fun ls hl => ?_)
                                        refine lv_goto (tgt := 374) hx hb dL_holds_466 (by decide) ?_
                                        exact ih_374 (kz + 1) (by omega) (by omega) _ _ _ hP hS  (lv_sub hl [2, 3, 4, 5, 1, 0] rfl)
                                      · refine lv_iload hx hb dL_holds_435 (lv_at hl 4 rfl) ?_
                                        refine lv_iconst (v := (-1)) hx hb dL_holds_437 (by decide) ?_
                                        refine lv_icmp_eq (tgt := 454) hx hb dL_holds_438 (by decide) (fun c_438 => ?_) (fun c_438 => ?_)
                                        · refine lv_iload hx hb dL_holds_454 (lv_at hl 5 rfl) ?_
                                          refine lv_goto (tgt := 461) hx hb dL_holds_456 (by decide) ?_
                                          refine z_topi (y := sfF st sm (kz + 1)) (sf_b hk9 c_432 c_438) ?_
                                          refine lv_istore (lv' := [(11, .int (sfF st sm (kz + 1))), (0, .ref (ad 0)), (1, .int xz), (8, .int 1), (10, .int sm), (12, .int (nI (kz + 1))), (13, .int (setT (cTold st) (nI (kz + 1)) 7)), (14, .int (nI 7))]) hx hb dL_holds_461 hl (by decide) rfl (fun ls hl => ?_)
                                          refine lv_iinc (v := nI ((kz + 1) + 1)) (lv' := [(12, .int (nI ((kz + 1) + 1))), (11, .int (sfF st sm (kz + 1))), (0, .ref (ad 0)), (1, .int xz), (8, .int 1), (10, .int sm), (13, .int (setT (cTold st) (nI (kz + 1)) 7)), (14, .int (nI 7))]) hx hb dL_holds_463 hl (k := 5) rfl (z_inc _) (by decide) rfl (fun ls hl => ?_)
                                          refine lv_goto (tgt := 374) hx hb dL_holds_466 (by decide) ?_
                                          exact ih_374 (kz + 1) (by omega) (by omega) _ _ _ hP hS  (lv_sub hl [2, 3, 4, 5, 1, 0] rfl)
                                        · refine lv_iload hx hb dL_holds_441 (lv_at hl 5 rfl) ?_
                                          refine z_Si_eq (As := [.int (nI (kz + 1))]) (rest := []) C0 hP hS hl.1 (m_L_bits l _ ) lk_L_81 rfl rfl (Nat.le_of_ble_eq_true rfl) ⟨Nat.le_of_ble_eq_true rfl, Nat.le_of_ble_eq_true rfl⟩ rfl rfl ⟨Nat.zero_le _, Nat.zero_le _⟩ dL_holds_443 (fun H locs hP hS => ?_)
                                          refine lv_iload hx hb dL_holds_446 (lv_at hl 4 rfl) ?_
                                          refine z_Si_eq (As := [.int (sfF st sm kz)]) (rest := [.int (mnF (nI (kz + 1)))]) C0 hP hS hl.1 (m_L_bits l _ ) lk_L_81 rfl rfl (Nat.le_of_ble_eq_true rfl) ⟨Nat.le_of_ble_eq_true rfl, Nat.le_of_ble_eq_true rfl⟩ rfl rfl ⟨Nat.zero_le _, Nat.zero_le _⟩ dL_holds_448 (fun H locs hP hS => ?_)
                                          refine lv_icmp_ge (tgt := 459) hx hb dL_holds_451 (by decide) (fun c_451 => ?_) (fun c_451 => ?_)
                                          · refine lv_iload hx hb dL_holds_459 (lv_at hl 4 rfl) ?_
                                            refine z_topi (y := sfF st sm (kz + 1)) (sf_c hk9 c_432 c_438 c_451) ?_
                                            refine lv_istore (lv' := [(11, .int (sfF st sm (kz + 1))), (0, .ref (ad 0)), (1, .int xz), (8, .int 1), (10, .int sm), (12, .int (nI (kz + 1))), (13, .int (setT (cTold st) (nI (kz + 1)) 7)), (14, .int (nI 7))]) hx hb dL_holds_461 hl (by decide) rfl (fun ls hl => ?_)
                                            refine lv_iinc (v := nI ((kz + 1) + 1)) (lv' := [(12, .int (nI ((kz + 1) + 1))), (11, .int (sfF st sm (kz + 1))), (0, .ref (ad 0)), (1, .int xz), (8, .int 1), (10, .int sm), (13, .int (setT (cTold st) (nI (kz + 1)) 7)), (14, .int (nI 7))]) hx hb dL_holds_463 hl (k := 5) rfl (z_inc _) (by decide) rfl (fun ls hl => ?_)
                                            refine lv_goto (tgt := 374) hx hb dL_holds_466 (by decide) ?_
                                            exact ih_374 (kz + 1) (by omega) (by omega) _ _ _ hP hS  (lv_sub hl [2, 3, 4, 5, 1, 0] rfl)
                                          · refine lv_iload hx hb dL_holds_454 (lv_at hl 5 rfl) ?_
                                            refine lv_goto (tgt := 461) hx hb dL_holds_456 (by decide) ?_
                                            refine z_topi (y := sfF st sm (kz + 1)) (sf_d hk9 c_432 c_451) ?_
                                            refine lv_istore (lv' := [(11, .int (sfF st sm (kz + 1))), (0, .ref (ad 0)), (1, .int xz), (8, .int 1), (10, .int sm), (12, .int (nI (kz + 1))), (13, .int (setT (cTold st) (nI (kz + 1)) 7)), (14, .int (nI 7))]) hx hb dL_holds_461 hl (by decide) rfl (fun ls hl => ?_)
                                            refine lv_iinc (v := nI ((kz + 1) + 1)) (lv' := [(12, .int (nI ((kz + 1) + 1))), (11, .int (sfF st sm (kz + 1))), (0, .ref (ad 0)), (1, .int xz), (8, .int 1), (10, .int sm), (13, .int (setT (cTold st) (nI (kz + 1)) 7)), (14, .int (nI 7))]) hx hb dL_holds_463 hl (k := 5) rfl (z_inc _) (by decide) rfl (fun ls hl => ?_)
                                            refine lv_goto (tgt := 374) hx hb dL_holds_466 (by decide) ?_
                                            exact ih_374 (kz + 1) (by omega) (by omega) _ _ _ hP hS  (lv_sub hl [2, 3, 4, 5, 1, 0] rfl)
                                    · have hk2 : cz < 7 := z_ge_f (b := 7) c_392 (by omega) (by omega)
                                      refine lv_iload hx hb dL_holds_395 (lv_at hl 6 rfl) ?_
                                      refine lv_iload hx hb dL_holds_397 (lv_at hl 5 rfl) ?_
                                      refine lv_iload hx hb dL_holds_399 (lv_at hl 7 rfl) ?_
                                      refine lv_ishr hx hb dL_holds_401 ?_
                                      refine lv_iconst (v := 1) hx hb dL_holds_402 (by decide) ?_
                                      refine lv_iand hx hb dL_holds_403 ?_
                                      refine lv_iconst (v := 1) hx hb dL_holds_404 (by decide) ?_
                                      refine lv_icmp_ne (tgt := 418) hx hb dL_holds_405 (by decide) (fun c_405 => ?_) (fun c_405 => ?_)
                                      · refine lv_iconst (v := 0) hx hb dL_holds_418 (by decide) ?_
                                        refine lv_iadd hx hb dL_holds_419 ?_
                                        refine z_topi (y := setT (cTold st) (nI (kz + 1)) (cz + 1)) (set_T c_405) ?_
                                        refine lv_istore (lv' := [(13, .int (setT (cTold st) (nI (kz + 1)) (cz + 1))), (0, .ref (ad 0)), (1, .int xz), (8, .int 1), (10, .int sm), (11, .int (sfF st sm kz)), (12, .int (nI (kz + 1))), (14, .int (nI cz))]) hx hb dL_holds_420 hl (by decide) rfl (fun ls hl => ?_)
                                        refine lv_iinc (v := nI (cz + 1)) (lv' := [(14, .int (nI (cz + 1))), (13, .int (setT (cTold st) (nI (kz + 1)) (cz + 1))), (0, .ref (ad 0)), (1, .int xz), (8, .int 1), (10, .int sm), (11, .int (sfF st sm kz)), (12, .int (nI (kz + 1)))]) hx hb dL_holds_422 hl (k := 7) rfl (z_inc _) (by decide) rfl (fun ls hl => ?_)
                                        refine lv_goto (tgt := 388) hx hb dL_holds_425 (by decide) ?_
                                        exact ih_388 (cz + 1) (by omega) (by omega) _ _ _ hP hS  (lv_sub hl [2, 3, 4, 5, 6, 7, 1, 0] rfl)
                                      · refine lv_aload_n hx hb dL_holds_408 rfl (lv_at hl 0 rfl) ?_
                                        refine lv_iload hx hb dL_holds_409 (lv_at hl 7 rfl) ?_
                                        refine lv_iconst (v := (nI 0)) hx hb dL_holds_411 (by decide) ?_
                                        obtain ⟨fs_412, hfs_412⟩ := hTT.rc
                                        refine z_Vi_eq (As := [.int (nI cz), .int (nI 0)]) (rest := [.int (setT (cTold st) (nI (kz + 1)) cz)]) C0 hP hS hl.1 (m_X4_cordOf l _ hTT hk2 (by decide) hI.pc) lk_L_15 hTT.n0 hfs_412 rfl rfl (Nat.le_of_ble_eq_true rfl) ⟨Nat.le_of_ble_eq_true rfl, Nat.le_of_ble_eq_true rfl⟩ rfl rfl ⟨Nat.zero_le _, Nat.zero_le _⟩ dL_holds_412 (fun H locs hP hS => ?_)
                                        refine z_topi (y := cTold st cz) rfl ?_
                                        refine lv_goto (tgt := 419) hx hb dL_holds_415 (by decide) ?_
                                        refine lv_iadd hx hb dL_holds_419 ?_
                                        refine z_topi (y := setT (cTold st) (nI (kz + 1)) (cz + 1)) (set_F c_405) ?_
                                        refine lv_istore (lv' := [(13, .int (setT (cTold st) (nI (kz + 1)) (cz + 1))), (0, .ref (ad 0)), (1, .int xz), (8, .int 1), (10, .int sm), (11, .int (sfF st sm kz)), (12, .int (nI (kz + 1))), (14, .int (nI cz))]) hx hb dL_holds_420 hl (by decide) rfl (fun ls hl => ?_)
                                        refine lv_iinc (v := nI (cz + 1)) (lv' := [(14, .int (nI (cz + 1))), (13, .int (setT (cTold st) (nI (kz + 1)) (cz + 1))), (0, .ref (ad 0)), (1, .int xz), (8, .int 1), (10, .int sm), (11, .int (sfF st sm kz)), (12, .int (nI (kz + 1)))]) hx hb dL_holds_422 hl (k := 7) rfl (z_inc _) (by decide) rfl (fun ls hl => ?_)
                                        refine lv_goto (tgt := 388) hx hb dL_holds_425 (by decide) ?_
                                        exact ih_388 (cz + 1) (by omega) (by omega) _ _ _ hP hS  (lv_sub hl [2, 3, 4, 5, 6, 7, 1, 0] rfl)
                                exact lp_388 _ 0 (by decide) (Nat.lt_succ_self _) _ _ _ hP hS  (lv_sub hl [2, 3, 4, 5, 6, 7, 1, 0] rfl)
                          exact lp_374 _ 0 (by decide) (Nat.lt_succ_self _) _ _ _ hP hS  (lv_sub hl [3, 4, 5, 2, 1, 0] rfl)
                        · refine lv_iconst (v := 1) hx hb dL_holds_349 (by decide) ?_
                          refine lv_iload_n hx hb dL_holds_350 rfl (lv_at hl 1 rfl) ?_
                          refine lv_bipush (v := 7) hx hb dL_holds_351 (by decide) ?_
                          refine lv_ishr hx hb dL_holds_353 ?_
                          refine lv_sipush (v := (nI 2000)) hx hb dL_holds_354 (by decide) ?_
                          refine z_Si_eq (As := [.int (xz >>> (7 &&& 31)), .int (nI 2000)]) (rest := [.int 1]) C0 hP hS hl.1 (m_L_low l _ (by decide) (by decide)) lk_L_9 rfl rfl (Nat.le_of_ble_eq_true rfl) ⟨Nat.le_of_ble_eq_true rfl, Nat.le_of_ble_eq_true rfl⟩ rfl rfl ⟨Nat.zero_le _, Nat.zero_le _⟩ dL_holds_357 (fun H locs hP hS => ?_)
                          refine lv_iadd hx hb dL_holds_360 ?_
                          refine lv_goto (tgt := 366) hx hb dL_holds_361 (by decide) ?_
                          obtain ⟨k8, hk8, ek8⟩ := low1 (xz >>> ((7 : Int32) &&& 31)) (n := 2000) (by decide) (by decide)
                          obtain ⟨sm, hsm⟩ : ∃ sm : Int32, (1 : Int32) + lowF (xz >>> ((7 : Int32) &&& 31)) 2000 = sm := ⟨_, rfl⟩
                          have hs1 : ¬ sm < 1 := by rw [← hsm, ek8]; exact (sum_ok2 hk8).1
                          have hs2 : sm ≤ 9999999 := by rw [← hsm, ek8]; exact (sum_ok2 hk8).2
                          refine z_topi (y := sm) hsm ?_
                          refine lv_istore (lv' := [(10, .int sm), (0, .ref (ad 0)), (1, .int xz), (8, .int 1), (9, .int (nI (k7 + 1))), (11, .int (nI 7))]) hx hb dL_holds_366 hl (by decide) rfl (fun ls hl => ?_)
                          refine lv_iconst (v := (-1)) hx hb dL_holds_368 (by decide) ?_
                          refine z_topi (y := sfF st sm 0) rfl ?_
                          refine lv_istore (lv' := [(11, .int (sfF st sm 0)), (10, .int sm), (0, .ref (ad 0)), (1, .int xz), (8, .int 1), (9, .int (nI (k7 + 1)))]) hx hb dL_holds_369 hl (by decide) rfl (fun ls hl => ?_)
                          refine lv_iconst (v := (nI (0 + 1))) hx hb dL_holds_371 (by decide) ?_
                          refine lv_istore (lv' := [(12, .int (nI (0 + 1))), (11, .int (sfF st sm 0)), (10, .int sm), (0, .ref (ad 0)), (1, .int xz), (8, .int 1), (9, .int (nI (k7 + 1)))]) hx hb dL_holds_372 hl (by decide) rfl (fun ls hl => ?_)
                          have lp_374 : ∀ (N : Nat) (kz : Nat) (hk : kz ≤ 127), 127 - kz < N → ∀ (H : Heap) (locs : List Loc) (ls : Array Slot), zP D K ad g (zA K ad s.heap.size) H → va_S (zA K ad s.heap.size) s.heap H locs → lv_has ls 15 [(0, .ref (ad 0)), (1, .int xz), (8, .int 1), (10, .int sm), (11, .int (sfF st sm kz)), (12, .int (nI (kz + 1)))] → W p l e ({ frames := 12, cells := 0, slots := 0, locals := 342 } : Room) s m [.ref (ad 0), .int xz].toArray below meth c H locs 0 0 (MQ below (va_Qi (fun r g1 => r = 1 ∧ isT cy K ad g1 st sv nx sz2 ns ss bu ln ∧ zFr zCl g g1) (zOut D cy K ad s.heap.size) (zA K ad s.heap.size)) [.ref (ad 0), .int xz].toArray s 0 0 (zA K ad s.heap.size)) (F0 m 374 ls []) := by
                            intro N
                            induction N with
                            | zero => intro kz hk hN; exact absurd hN (Nat.not_lt_zero _)
                            | succ N ih_374 =>
                              intro kz hk hN H locs ls hP hS  hl
                              refine lv_iload hx hb dL_holds_374 (lv_at hl 5 rfl) ?_
                              refine lv_sipush (v := 128) hx hb dL_holds_376 (by decide) ?_
                              refine lv_icmp_ge (tgt := 469) hx hb dL_holds_379 (by decide) (fun c_379 => ?_) (fun c_379 => ?_)
                              · have hk2 : kz = 127 := by have := z_ge_t (b := 128) c_379 (by omega) (by omega); omega
                                subst hk2
                                refine lv_iload hx hb dL_holds_469 (lv_at hl 2 rfl) ?_
                                refine lv_if_eq (tgt := 502) hx hb dL_holds_471 (by decide) (fun c_471 => absurd c_471 (by decide)) (fun c_471 => ?_)
                                refine lv_aload_n hx hb dL_holds_474 rfl (lv_at hl 0 rfl) ?_
                                refine lv_iload hx hb dL_holds_475 (lv_at hl 3 rfl) ?_
                                refine lv_iconst (v := (nI 0)) hx hb dL_holds_477 (by decide) ?_
                                obtain ⟨fs_478, hfs_478⟩ := hTT.rc
                                refine z_Vi_mo (As := [.int sm, .int (nI 0)]) (rest := []) C0 hP hS hl.1 (m_X4_cordsFor l _ hTT hs1 hs2 (by decide)) lk_L_84 hTT.n0 hfs_478 rfl rfl (Nat.le_of_ble_eq_true rfl) ⟨Nat.le_of_ble_eq_true rfl, Nat.le_of_ble_eq_true rfl⟩ rfl rfl ⟨Nat.zero_le _, Nat.zero_le _⟩ dL_holds_478 (fun r_478 g_26 H locs hP hS hp => ?_)
                                obtain ⟨hr_478, hTT, hF1⟩ := hp
                                subst hr_478
                                have hFr := hFr.tr (hF1.mono (by intro x9 hx9; first | (dsimp only [zOne, zRg, zCl] at hx9 ⊢; omega) | (dsimp only at hx9 ⊢; omega) | omega))
                                refine lv_iload hx hb dL_holds_481 (lv_at hl 4 rfl) ?_
                                refine lv_icmp_ne (tgt := 502) hx hb dL_holds_483 (by decide) (fun c_483 => absurd (for_is hI.1 hs1 hs2 0) c_483) (fun c_483 => ?_)
                                refine lv_aload_n hx hb dL_holds_486 rfl (lv_at hl 0 rfl) ?_
                                refine lv_iload hx hb dL_holds_487 (lv_at hl 3 rfl) ?_
                                refine lv_iconst (v := (nI 1)) hx hb dL_holds_489 (by decide) ?_
                                obtain ⟨fs_490, hfs_490⟩ := hTT.rc
                                refine z_Vi_mo (As := [.int sm, .int (nI 1)]) (rest := []) C0 hP hS hl.1 (m_X4_cordsFor l _ hTT hs1 hs2 (by decide)) lk_L_84 hTT.n0 hfs_490 rfl rfl (Nat.le_of_ble_eq_true rfl) ⟨Nat.le_of_ble_eq_true rfl, Nat.le_of_ble_eq_true rfl⟩ rfl rfl ⟨Nat.zero_le _, Nat.zero_le _⟩ dL_holds_490 (fun r_490 g_27 H locs hP hS hp => ?_)
                                obtain ⟨hr_490, hTT, hF1⟩ := hp
                                subst hr_490
                                have hFr := hFr.tr (hF1.mono (by intro x9 hx9; first | (dsimp only [zOne, zRg, zCl] at hx9 ⊢; omega) | (dsimp only at hx9 ⊢; omega) | omega))
                                refine lv_iload hx hb dL_holds_493 (lv_at hl 4 rfl) ?_
                                refine lv_icmp_ne (tgt := 502) hx hb dL_holds_495 (by decide) (fun c_495 => absurd (for_is hI.1 hs1 hs2 1) c_495) (fun c_495 => ?_)
                                refine lv_iconst (v := 1) hx hb dL_holds_498 (by decide) ?_
                                refine lv_goto (tgt := 503) hx hb dL_holds_499 (by decide) ?_
                                exact z_zret C0 hP hS hr rfl (⟨rfl, hTT, hFr⟩) dL_holds_503
                              · have hk9 : kz < 127 := by have := z_ge_f (b := 128) c_379 (by omega) (by omega); omega
                                refine lv_iconst (v := 0) hx hb dL_holds_382 (by decide) ?_
                                refine z_topi (y := setT (cTold st) (nI (kz + 1)) 0) rfl ?_
                                refine lv_istore (lv' := [(13, .int (setT (cTold st) (nI (kz + 1)) 0)), (0, .ref (ad 0)), (1, .int xz), (8, .int 1), (10, .int sm), (11, .int (sfF st sm kz)), (12, .int (nI (kz + 1)))]) hx hb dL_holds_383 hl (by decide) rfl (fun ls hl => ?_)
                                refine lv_iconst (v := (nI 0)) hx hb dL_holds_385 (by decide) ?_
                                refine lv_istore (lv' := [(14, .int (nI 0)), (13, .int (setT (cTold st) (nI (kz + 1)) 0)), (0, .ref (ad 0)), (1, .int xz), (8, .int 1), (10, .int sm), (11, .int (sfF st sm kz)), (12, .int (nI (kz + 1)))]) hx hb dL_holds_386 hl (by decide) rfl (fun ls hl => ?_)
                                have lp_388 : ∀ (N : Nat) (cz : Nat) (hk3 : cz ≤ 7), 7 - cz < N → ∀ (H : Heap) (locs : List Loc) (ls : Array Slot), zP D K ad g (zA K ad s.heap.size) H → va_S (zA K ad s.heap.size) s.heap H locs → lv_has ls 15 [(0, .ref (ad 0)), (1, .int xz), (8, .int 1), (10, .int sm), (11, .int (sfF st sm kz)), (12, .int (nI (kz + 1))), (13, .int (setT (cTold st) (nI (kz + 1)) cz)), (14, .int (nI cz))] → W p l e ({ frames := 12, cells := 0, slots := 0, locals := 342 } : Room) s m [.ref (ad 0), .int xz].toArray below meth c H locs 0 0 (MQ below (va_Qi (fun r g1 => r = 1 ∧ isT cy K ad g1 st sv nx sz2 ns ss bu ln ∧ zFr zCl g g1) (zOut D cy K ad s.heap.size) (zA K ad s.heap.size)) [.ref (ad 0), .int xz].toArray s 0 0 (zA K ad s.heap.size)) (F0 m 388 ls []) := by
                                  intro N
                                  induction N with
                                  | zero => intro cz hk3 hN; exact absurd hN (Nat.not_lt_zero _)
                                  | succ N ih_388 =>
                                    intro cz hk3 hN H locs ls hP hS  hl
                                    refine lv_iload hx hb dL_holds_388 (lv_at hl 7 rfl) ?_
                                    refine lv_bipush (v := 7) hx hb dL_holds_390 (by decide) ?_
                                    refine lv_icmp_ge (tgt := 428) hx hb dL_holds_392 (by decide) (fun c_392 => ?_) (fun c_392 => ?_)
                                    · have hk2 : cz = 7 := by have := z_ge_t (b := 7) c_392 (by omega) (by omega); omega
                                      subst hk2
                                      refine lv_iload hx hb dL_holds_428 (lv_at hl 6 rfl) ?_
                                      refine lv_iload hx hb dL_holds_430 (lv_at hl 3 rfl) ?_
                                      refine lv_icmp_ne (tgt := 459) hx hb dL_holds_432 (by decide) (fun c_432 => ?_) (fun c_432 => ?_)
                                      · refine lv_iload hx hb dL_holds_459 (lv_at hl 4 rfl) ?_
                                        refine z_topi (y := sfF st sm (kz + 1)) (sf_a hk9 c_432) ?_
                                        refine lv_istore (lv' := [(11, .int (sfF st sm (kz + 1))), (0, .ref (ad 0)), (1, .int xz), (8, .int 1), (10, .int sm), (12, .int (nI (kz + 1))), (13, .int (setT (cTold st) (nI (kz + 1)) 7)), (14, .int (nI 7))]) hx hb dL_holds_461 hl (by decide) rfl (fun ls hl => ?_)
                                        refine lv_iinc (v := nI ((kz + 1) + 1)) (lv' := [(12, .int (nI ((kz + 1) + 1))), (11, .int (sfF st sm (kz + 1))), (0, .ref (ad 0)), (1, .int xz), (8, .int 1), (10, .int sm), (13, .int (setT (cTold st) (nI (kz + 1)) 7)), (14, .int (nI 7))]) hx hb dL_holds_463 hl (k := 5) rfl (z_inc _) (by decide) rfl (fun ls hl => ?_)
                                        refine lv_goto (tgt := 374) hx hb dL_holds_466 (by decide) ?_
                                        exact ih_374 (kz + 1) (by omega) (by omega) _ _ _ hP hS  (lv_sub hl [2, 3, 4, 5, 1, 0] rfl)
                                      · refine lv_iload hx hb dL_holds_435 (lv_at hl 4 rfl) ?_
                                        refine lv_iconst (v := (-1)) hx hb dL_holds_437 (by decide) ?_
                                        refine lv_icmp_eq (tgt := 454) hx hb dL_holds_438 (by decide) (fun c_438 => ?_) (fun c_438 => ?_)
                                        · refine lv_iload hx hb dL_holds_454 (lv_at hl 5 rfl) ?_
                                          refine lv_goto (tgt := 461) hx hb dL_holds_456 (by decide) ?_
                                          refine z_topi (y := sfF st sm (kz + 1)) (sf_b hk9 c_432 c_438) ?_
                                          refine lv_istore (lv' := [(11, .int (sfF st sm (kz + 1))), (0, .ref (ad 0)), (1, .int xz), (8, .int 1), (10, .int sm), (12, .int (nI (kz + 1))), (13, .int (setT (cTold st) (nI (kz + 1)) 7)), (14, .int (nI 7))]) hx hb dL_holds_461 hl (by decide) rfl (fun ls hl => ?_)
                                          refine lv_iinc (v := nI ((kz + 1) + 1)) (lv' := [(12, .int (nI ((kz + 1) + 1))), (11, .int (sfF st sm (kz + 1))), (0, .ref (ad 0)), (1, .int xz), (8, .int 1), (10, .int sm), (13, .int (setT (cTold st) (nI (kz + 1)) 7)), (14, .int (nI 7))]) hx hb dL_holds_463 hl (k := 5) rfl (z_inc _) (by decide) rfl (fun ls hl => ?_)
                                          refine lv_goto (tgt := 374) hx hb dL_holds_466 (by decide) ?_
                                          exact ih_374 (kz + 1) (by omega) (by omega) _ _ _ hP hS  (lv_sub hl [2, 3, 4, 5, 1, 0] rfl)
                                        · refine lv_iload hx hb dL_holds_441 (lv_at hl 5 rfl) ?_
                                          refine z_Si_eq (As := [.int (nI (kz + 1))]) (rest := []) C0 hP hS hl.1 (m_L_bits l _ ) lk_L_81 rfl rfl (Nat.le_of_ble_eq_true rfl) ⟨Nat.le_of_ble_eq_true rfl, Nat.le_of_ble_eq_true rfl⟩ rfl rfl ⟨Nat.zero_le _, Nat.zero_le _⟩ dL_holds_443 (fun H locs hP hS => ?_)
                                          refine lv_iload hx hb dL_holds_446 (lv_at hl 4 rfl) ?_
                                          refine z_Si_eq (As := [.int (sfF st sm kz)]) (rest := [.int (mnF (nI (kz + 1)))]) C0 hP hS hl.1 (m_L_bits l _ ) lk_L_81 rfl rfl (Nat.le_of_ble_eq_true rfl) ⟨Nat.le_of_ble_eq_true rfl, Nat.le_of_ble_eq_true rfl⟩ rfl rfl ⟨Nat.zero_le _, Nat.zero_le _⟩ dL_holds_448 (fun H locs hP hS => ?_)
                                          refine lv_icmp_ge (tgt := 459) hx hb dL_holds_451 (by decide) (fun c_451 => ?_) (fun c_451 => ?_)
                                          · refine lv_iload hx hb dL_holds_459 (lv_at hl 4 rfl) ?_
                                            refine z_topi (y := sfF st sm (kz + 1)) (sf_c hk9 c_432 c_438 c_451) ?_
                                            refine lv_istore (lv' := [(11, .int (sfF st sm (kz + 1))), (0, .ref (ad 0)), (1, .int xz), (8, .int 1), (10, .int sm), (12, .int (nI (kz + 1))), (13, .int (setT (cTold st) (nI (kz + 1)) 7)), (14, .int (nI 7))]) hx hb dL_holds_461 hl (by decide) rfl (fun ls hl => ?_)
                                            refine lv_iinc (v := nI ((kz + 1) + 1)) (lv' := [(12, .int (nI ((kz + 1) + 1))), (11, .int (sfF st sm (kz + 1))), (0, .ref (ad 0)), (1, .int xz), (8, .int 1), (10, .int sm), (13, .int (setT (cTold st) (nI (kz + 1)) 7)), (14, .int (nI 7))]) hx hb dL_holds_463 hl (k := 5) rfl (z_inc _) (by decide) rfl (fun ls hl => ?_)
                                            refine lv_goto (tgt := 374) hx hb dL_holds_466 (by decide) ?_
                                            exact ih_374 (kz + 1) (by omega) (by omega) _ _ _ hP hS  (lv_sub hl [2, 3, 4, 5, 1, 0] rfl)
                                          · refine lv_iload hx hb dL_holds_454 (lv_at hl 5 rfl) ?_
                                            refine lv_goto (tgt := 461) hx hb dL_holds_456 (by decide) ?_
                                            refine z_topi (y := sfF st sm (kz + 1)) (sf_d hk9 c_432 c_451) ?_
                                            refine lv_istore (lv' := [(11, .int (sfF st sm (kz + 1))), (0, .ref (ad 0)), (1, .int xz), (8, .int 1), (10, .int sm), (12, .int (nI (kz + 1))), (13, .int (setT (cTold st) (nI (kz + 1)) 7)), (14, .int (nI 7))]) hx hb dL_holds_461 hl (by decide) rfl (fun ls hl => ?_)
                                            refine lv_iinc (v := nI ((kz + 1) + 1)) (lv' := [(12, .int (nI ((kz + 1) + 1))), (11, .int (sfF st sm (kz + 1))), (0, .ref (ad 0)), (1, .int xz), (8, .int 1), (10, .int sm), (13, .int (setT (cTold st) (nI (kz + 1)) 7)), (14, .int (nI 7))]) hx hb dL_holds_463 hl (k := 5) rfl (z_inc _) (by decide) rfl (fun ls hl => ?_)
                                            refine lv_goto (tgt := 374) hx hb dL_holds_466 (by decide) ?_
                                            exact ih_374 (kz + 1) (by omega) (by omega) _ _ _ hP hS  (lv_sub hl [2, 3, 4, 5, 1, 0] rfl)
                                    · have hk2 : cz < 7 := z_ge_f (b := 7) c_392 (by omega) (by omega)
                                      refine lv_iload hx hb dL_holds_395 (lv_at hl 6 rfl) ?_
                                      refine lv_iload hx hb dL_holds_397 (lv_at hl 5 rfl) ?_
                                      refine lv_iload hx hb dL_holds_399 (lv_at hl 7 rfl) ?_
                                      refine lv_ishr hx hb dL_holds_401 ?_
                                      refine lv_iconst (v := 1) hx hb dL_holds_402 (by decide) ?_
                                      refine lv_iand hx hb dL_holds_403 ?_
                                      refine lv_iconst (v := 1) hx hb dL_holds_404 (by decide) ?_
                                      refine lv_icmp_ne (tgt := 418) hx hb dL_holds_405 (by decide) (fun c_405 => ?_) (fun c_405 => ?_)
                                      · refine lv_iconst (v := 0) hx hb dL_holds_418 (by decide) ?_
                                        refine lv_iadd hx hb dL_holds_419 ?_
                                        refine z_topi (y := setT (cTold st) (nI (kz + 1)) (cz + 1)) (set_T c_405) ?_
                                        refine lv_istore (lv' := [(13, .int (setT (cTold st) (nI (kz + 1)) (cz + 1))), (0, .ref (ad 0)), (1, .int xz), (8, .int 1), (10, .int sm), (11, .int (sfF st sm kz)), (12, .int (nI (kz + 1))), (14, .int (nI cz))]) hx hb dL_holds_420 hl (by decide) rfl (fun ls hl => ?_)
                                        refine lv_iinc (v := nI (cz + 1)) (lv' := [(14, .int (nI (cz + 1))), (13, .int (setT (cTold st) (nI (kz + 1)) (cz + 1))), (0, .ref (ad 0)), (1, .int xz), (8, .int 1), (10, .int sm), (11, .int (sfF st sm kz)), (12, .int (nI (kz + 1)))]) hx hb dL_holds_422 hl (k := 7) rfl (z_inc _) (by decide) rfl (fun ls hl => ?_)
                                        refine lv_goto (tgt := 388) hx hb dL_holds_425 (by decide) ?_
                                        exact ih_388 (cz + 1) (by omega) (by omega) _ _ _ hP hS  (lv_sub hl [2, 3, 4, 5, 6, 7, 1, 0] rfl)
                                      · refine lv_aload_n hx hb dL_holds_408 rfl (lv_at hl 0 rfl) ?_
                                        refine lv_iload hx hb dL_holds_409 (lv_at hl 7 rfl) ?_
                                        refine lv_iconst (v := (nI 0)) hx hb dL_holds_411 (by decide) ?_
                                        obtain ⟨fs_412, hfs_412⟩ := hTT.rc
                                        refine z_Vi_eq (As := [.int (nI cz), .int (nI 0)]) (rest := [.int (setT (cTold st) (nI (kz + 1)) cz)]) C0 hP hS hl.1 (m_X4_cordOf l _ hTT hk2 (by decide) hI.pc) lk_L_15 hTT.n0 hfs_412 rfl rfl (Nat.le_of_ble_eq_true rfl) ⟨Nat.le_of_ble_eq_true rfl, Nat.le_of_ble_eq_true rfl⟩ rfl rfl ⟨Nat.zero_le _, Nat.zero_le _⟩ dL_holds_412 (fun H locs hP hS => ?_)
                                        refine z_topi (y := cTold st cz) rfl ?_
                                        refine lv_goto (tgt := 419) hx hb dL_holds_415 (by decide) ?_
                                        refine lv_iadd hx hb dL_holds_419 ?_
                                        refine z_topi (y := setT (cTold st) (nI (kz + 1)) (cz + 1)) (set_F c_405) ?_
                                        refine lv_istore (lv' := [(13, .int (setT (cTold st) (nI (kz + 1)) (cz + 1))), (0, .ref (ad 0)), (1, .int xz), (8, .int 1), (10, .int sm), (11, .int (sfF st sm kz)), (12, .int (nI (kz + 1))), (14, .int (nI cz))]) hx hb dL_holds_420 hl (by decide) rfl (fun ls hl => ?_)
                                        refine lv_iinc (v := nI (cz + 1)) (lv' := [(14, .int (nI (cz + 1))), (13, .int (setT (cTold st) (nI (kz + 1)) (cz + 1))), (0, .ref (ad 0)), (1, .int xz), (8, .int 1), (10, .int sm), (11, .int (sfF st sm kz)), (12, .int (nI (kz + 1)))]) hx hb dL_holds_422 hl (k := 7) rfl (z_inc _) (by decide) rfl (fun ls hl => ?_)
                                        refine lv_goto (tgt := 388) hx hb dL_holds_425 (by decide) ?_
                                        exact ih_388 (cz + 1) (by omega) (by omega) _ _ _ hP hS  (lv_sub hl [2, 3, 4, 5, 6, 7, 1, 0] rfl)
                                exact lp_388 _ 0 (by decide) (Nat.lt_succ_self _) _ _ _ hP hS  (lv_sub hl [2, 3, 4, 5, 6, 7, 1, 0] rfl)
                          exact lp_374 _ 0 (by decide) (Nat.lt_succ_self _) _ _ _ hP hS  (lv_sub hl [3, 4, 5, 2, 1, 0] rfl)
                    · have hk2 : cz < 7 := z_ge_f (b := 7) c_298 (by omega) (by omega)
                      refine lv_iload hx hb dL_holds_301 (lv_at hl 4 rfl) ?_
                      refine lv_iload hx hb dL_holds_303 (lv_at hl 3 rfl) ?_
                      refine lv_iload hx hb dL_holds_305 (lv_at hl 5 rfl) ?_
                      refine lv_ishr hx hb dL_holds_307 ?_
                      refine lv_iconst (v := 1) hx hb dL_holds_308 (by decide) ?_
                      refine lv_iand hx hb dL_holds_309 ?_
                      refine lv_iconst (v := 1) hx hb dL_holds_310 (by decide) ?_
                      refine lv_icmp_ne (tgt := 324) hx hb dL_holds_311 (by decide) (fun c_311 => ?_) (fun c_311 => ?_)
                      · refine lv_iconst (v := 0) hx hb dL_holds_324 (by decide) ?_
                        refine lv_iadd hx hb dL_holds_325 ?_
                        refine z_topi (y := setT (cTold st) (nI (k7 + 1)) (cz + 1)) (set_T c_311) ?_
                        refine lv_istore (lv' := [(10, .int (setT (cTold st) (nI (k7 + 1)) (cz + 1))), (0, .ref (ad 0)), (1, .int xz), (8, .int 1), (9, .int (nI (k7 + 1))), (11, .int (nI cz))]) hx hb dL_holds_326 hl (by decide) rfl (fun ls hl => ?_)
                        refine lv_iinc (v := nI (cz + 1)) (lv' := [(11, .int (nI (cz + 1))), (10, .int (setT (cTold st) (nI (k7 + 1)) (cz + 1))), (0, .ref (ad 0)), (1, .int xz), (8, .int 1), (9, .int (nI (k7 + 1)))]) hx hb dL_holds_328 hl (k := 5) rfl (z_inc _) (by decide) rfl (fun ls hl => ?_)
                        refine lv_goto (tgt := 294) hx hb dL_holds_331 (by decide) ?_
                        exact ih_294 (cz + 1) (by omega) (by omega) _ _ _ hP hS  (lv_sub hl [2, 3, 4, 5, 1, 0] rfl)
                      · refine lv_aload_n hx hb dL_holds_314 rfl (lv_at hl 0 rfl) ?_
                        refine lv_iload hx hb dL_holds_315 (lv_at hl 5 rfl) ?_
                        refine lv_iconst (v := (nI 0)) hx hb dL_holds_317 (by decide) ?_
                        obtain ⟨fs_318, hfs_318⟩ := hTT.rc
                        refine z_Vi_eq (As := [.int (nI cz), .int (nI 0)]) (rest := [.int (setT (cTold st) (nI (k7 + 1)) cz)]) C0 hP hS hl.1 (m_X4_cordOf l _ hTT hk2 (by decide) hI.pc) lk_L_15 hTT.n0 hfs_318 rfl rfl (Nat.le_of_ble_eq_true rfl) ⟨Nat.le_of_ble_eq_true rfl, Nat.le_of_ble_eq_true rfl⟩ rfl rfl ⟨Nat.zero_le _, Nat.zero_le _⟩ dL_holds_318 (fun H locs hP hS => ?_)
                        refine z_topi (y := cTold st cz) rfl ?_
                        refine lv_goto (tgt := 325) hx hb dL_holds_321 (by decide) ?_
                        refine lv_iadd hx hb dL_holds_325 ?_
                        refine z_topi (y := setT (cTold st) (nI (k7 + 1)) (cz + 1)) (set_F c_311) ?_
                        refine lv_istore (lv' := [(10, .int (setT (cTold st) (nI (k7 + 1)) (cz + 1))), (0, .ref (ad 0)), (1, .int xz), (8, .int 1), (9, .int (nI (k7 + 1))), (11, .int (nI cz))]) hx hb dL_holds_326 hl (by decide) rfl (fun ls hl => ?_)
                        refine lv_iinc (v := nI (cz + 1)) (lv' := [(11, .int (nI (cz + 1))), (10, .int (setT (cTold st) (nI (k7 + 1)) (cz + 1))), (0, .ref (ad 0)), (1, .int xz), (8, .int 1), (9, .int (nI (k7 + 1)))]) hx hb dL_holds_328 hl (k := 5) rfl (z_inc _) (by decide) rfl (fun ls hl => ?_)
                        refine lv_goto (tgt := 294) hx hb dL_holds_331 (by decide) ?_
                        exact ih_294 (cz + 1) (by omega) (by omega) _ _ _ hP hS  (lv_sub hl [2, 3, 4, 5, 1, 0] rfl)
                exact lp_294 _ 0 (by decide) (Nat.lt_succ_self _) _ _ _ hP hS  (lv_sub hl [4, 5, 3, 2, 1, 0] rfl)
            · have hk2 : hz < 6 := z_ge_f (b := 6) c_133 (by omega) (by omega)
              refine lv_iload hx hb dL_holds_136 (lv_at hl 6 rfl) ?_
              refine lv_aload_n hx hb dL_holds_138 rfl (lv_at hl 0 rfl) ?_
              refine lv_iload hx hb dL_holds_139 (lv_at hl 9 rfl) ?_
              obtain ⟨fs_141, hfs_141⟩ := hTT.rc
              refine z_Vi_eq (As := [.int (nI hz)]) (rest := [.int (sumN (fun z => sumN (hueN st (nI z)) 7) hz)]) C0 hP hS hl.1 (m_X4_byHue l _ hTT (hue_rng hk2).1 (hue_rng hk2).2) lk_L_70 hTT.n0 hfs_141 rfl rfl (Nat.le_of_ble_eq_true rfl) ⟨Nat.le_of_ble_eq_true rfl, Nat.le_of_ble_eq_true rfl⟩ rfl rfl ⟨Nat.zero_le _, Nat.zero_le _⟩ dL_holds_141 (fun H locs hP hS => ?_)
              refine lv_iadd hx hb dL_holds_144 ?_
              refine z_topi (y := sumN (fun z => sumN (hueN st (nI z)) 7) (hz + 1)) rfl ?_
              refine lv_istore (lv' := [(6, .int (sumN (fun z => sumN (hueN st (nI z)) 7) (hz + 1))), (0, .ref (ad 0)), (1, .int xz), (2, .int (sumN (cTold st) 7)), (3, .int (sumN (cTies st) 7)), (4, .int (sumN (allL st) 7)), (5, .int (sumN (lackN st) 7)), (7, .int (nI (fuW st 7))), (8, .int 1), (9, .int (nI hz))]) hx hb dL_holds_145 hl (by decide) rfl (fun ls hl => ?_)
              refine lv_iinc (v := nI (hz + 1)) (lv' := [(9, .int (nI (hz + 1))), (6, .int (sumN (fun z => sumN (hueN st (nI z)) 7) (hz + 1))), (0, .ref (ad 0)), (1, .int xz), (2, .int (sumN (cTold st) 7)), (3, .int (sumN (cTies st) 7)), (4, .int (sumN (allL st) 7)), (5, .int (sumN (lackN st) 7)), (7, .int (nI (fuW st 7))), (8, .int 1)]) hx hb dL_holds_147 hl (k := 9) rfl (z_inc _) (by decide) rfl (fun ls hl => ?_)
              refine lv_goto (tgt := 129) hx hb dL_holds_150 (by decide) ?_
              exact ih_129 (hz + 1) (by omega) (by omega) _ _ _ hP hS  (lv_sub hl [2, 3, 4, 5, 6, 7, 1, 8, 9, 0] rfl)
        exact lp_129 _ 0 (by decide) (Nat.lt_succ_self _) _ _ _ hP hS  (lv_sub hl [1, 2, 3, 4, 5, 6, 7, 8, 9, 0] rfl)
      · have hk2 : cz < 7 := z_ge_f (b := 7) c_26 (by omega) (by omega)
        refine lv_iload hx hb dL_holds_29 (lv_at hl 8 rfl) ?_
        refine lv_if_eq (tgt := 126) hx hb dL_holds_31 (by decide) (fun c_31 => absurd c_31 (by decide)) (fun c_31 => ?_)
        refine lv_aload_n hx hb dL_holds_34 rfl (lv_at hl 0 rfl) ?_
        refine lv_iload hx hb dL_holds_35 (lv_at hl 9 rfl) ?_
        refine z_Si_eq (As := [.ref (ad 0), .int (nI cz)]) (rest := []) C0 hP hS hl.1 (m_L_isCord l _ hTT hk2 hI) lk_L_66 rfl rfl (Nat.le_of_ble_eq_true rfl) ⟨Nat.le_of_ble_eq_true rfl, Nat.le_of_ble_eq_true rfl⟩ rfl rfl ⟨Nat.zero_le _, Nat.zero_le _⟩ dL_holds_37 (fun H locs hP hS => ?_)
        refine lv_istore (lv' := [(8, .int 1), (0, .ref (ad 0)), (1, .int xz), (2, .int (sumN (cTold st) cz)), (3, .int (sumN (cTies st) cz)), (4, .int (sumN (allL st) cz)), (5, .int (sumN (lackN st) cz)), (6, .int (sumN (fun z => sumN (hueN st (nI z)) 7) 0)), (7, .int (nI (fuW st cz))), (9, .int (nI cz))]) hx hb dL_holds_40 hl (by decide) rfl (fun ls hl => ?_)
        refine lv_iload_n hx hb dL_holds_42 rfl (lv_at hl 3 rfl) ?_
        refine lv_aload_n hx hb dL_holds_43 rfl (lv_at hl 1 rfl) ?_
        refine lv_iload hx hb dL_holds_44 (lv_at hl 9 rfl) ?_
        refine lv_iconst (v := (nI 0)) hx hb dL_holds_46 (by decide) ?_
        obtain ⟨fs_47, hfs_47⟩ := hTT.rc
        refine z_Vi_eq (As := [.int (nI cz), .int (nI 0)]) (rest := [.int (sumN (cTold st) cz)]) C0 hP hS hl.1 (m_X4_cordOf l _ hTT hk2 (by decide) hI.pc) lk_L_15 hTT.n0 hfs_47 rfl rfl (Nat.le_of_ble_eq_true rfl) ⟨Nat.le_of_ble_eq_true rfl, Nat.le_of_ble_eq_true rfl⟩ rfl rfl ⟨Nat.zero_le _, Nat.zero_le _⟩ dL_holds_47 (fun H locs hP hS => ?_)
        refine lv_iadd hx hb dL_holds_50 ?_
        refine z_topi (y := sumN (cTold st) (cz + 1)) rfl ?_
        refine lv_istore_n (lv' := [(2, .int (sumN (cTold st) (cz + 1))), (8, .int 1), (0, .ref (ad 0)), (1, .int xz), (3, .int (sumN (cTies st) cz)), (4, .int (sumN (allL st) cz)), (5, .int (sumN (lackN st) cz)), (6, .int (sumN (fun z => sumN (hueN st (nI z)) 7) 0)), (7, .int (nI (fuW st cz))), (9, .int (nI cz))]) hx hb dL_holds_51 rfl hl (by decide) rfl (fun ls hl => ?_)
        refine lv_iload_n hx hb dL_holds_52 rfl (lv_at hl 4 rfl) ?_
        refine lv_aload_n hx hb dL_holds_53 rfl (lv_at hl 2 rfl) ?_
        refine lv_iload hx hb dL_holds_54 (lv_at hl 9 rfl) ?_
        refine lv_iconst (v := (nI 4)) hx hb dL_holds_56 (by decide) ?_
        obtain ⟨fs_57, hfs_57⟩ := hTT.rc
        refine z_Vi_eq (As := [.int (nI cz), .int (nI 4)]) (rest := [.int (sumN (cTies st) cz)]) C0 hP hS hl.1 (m_X4_cordOf l _ hTT hk2 (by decide) hI.pc) lk_L_15 hTT.n0 hfs_57 rfl rfl (Nat.le_of_ble_eq_true rfl) ⟨Nat.le_of_ble_eq_true rfl, Nat.le_of_ble_eq_true rfl⟩ rfl rfl ⟨Nat.zero_le _, Nat.zero_le _⟩ dL_holds_57 (fun H locs hP hS => ?_)
        refine lv_iadd hx hb dL_holds_60 ?_
        refine z_topi (y := sumN (cTies st) (cz + 1)) rfl ?_
        refine lv_istore_n (lv' := [(3, .int (sumN (cTies st) (cz + 1))), (2, .int (sumN (cTold st) (cz + 1))), (8, .int 1), (0, .ref (ad 0)), (1, .int xz), (4, .int (sumN (allL st) cz)), (5, .int (sumN (lackN st) cz)), (6, .int (sumN (fun z => sumN (hueN st (nI z)) 7) 0)), (7, .int (nI (fuW st cz))), (9, .int (nI cz))]) hx hb dL_holds_61 rfl hl (by decide) rfl (fun ls hl => ?_)
        refine lv_iload hx hb dL_holds_62 (lv_at hl 5 rfl) ?_
        refine lv_aload_n hx hb dL_holds_64 rfl (lv_at hl 3 rfl) ?_
        refine lv_iload hx hb dL_holds_65 (lv_at hl 9 rfl) ?_
        refine lv_iconst (v := (nI 5)) hx hb dL_holds_67 (by decide) ?_
        obtain ⟨fs_68, hfs_68⟩ := hTT.rc
        refine z_Vi_eq (As := [.int (nI cz), .int (nI 5)]) (rest := [.int (sumN (allL st) cz)]) C0 hP hS hl.1 (m_X4_cordOf l _ hTT hk2 (by decide) hI.pc) lk_L_15 hTT.n0 hfs_68 rfl rfl (Nat.le_of_ble_eq_true rfl) ⟨Nat.le_of_ble_eq_true rfl, Nat.le_of_ble_eq_true rfl⟩ rfl rfl ⟨Nat.zero_le _, Nat.zero_le _⟩ dL_holds_68 (fun H locs hP hS => ?_)
        refine lv_iadd hx hb dL_holds_71 ?_
        refine z_topi (y := sumN (allL st) (cz + 1)) rfl ?_
        refine lv_istore (lv' := [(4, .int (sumN (allL st) (cz + 1))), (3, .int (sumN (cTies st) (cz + 1))), (2, .int (sumN (cTold st) (cz + 1))), (8, .int 1), (0, .ref (ad 0)), (1, .int xz), (5, .int (sumN (lackN st) cz)), (6, .int (sumN (fun z => sumN (hueN st (nI z)) 7) 0)), (7, .int (nI (fuW st cz))), (9, .int (nI cz))]) hx hb dL_holds_72 hl (by decide) rfl (fun ls hl => ?_)
        refine lv_iload hx hb dL_holds_74 (lv_at hl 6 rfl) ?_
        refine lv_aload_n hx hb dL_holds_76 rfl (lv_at hl 4 rfl) ?_
        refine lv_iload hx hb dL_holds_77 (lv_at hl 9 rfl) ?_
        refine lv_iconst (v := (nI 3)) hx hb dL_holds_79 (by decide) ?_
        obtain ⟨fs_80, hfs_80⟩ := hTT.rc
        refine z_Vi_eq (As := [.int (nI cz), .int (nI 3)]) (rest := [.int (sumN (lackN st) cz)]) C0 hP hS hl.1 (m_X4_cordOf l _ hTT hk2 (by decide) hI.pc) lk_L_15 hTT.n0 hfs_80 rfl rfl (Nat.le_of_ble_eq_true rfl) ⟨Nat.le_of_ble_eq_true rfl, Nat.le_of_ble_eq_true rfl⟩ rfl rfl ⟨Nat.zero_le _, Nat.zero_le _⟩ dL_holds_80 (fun H locs hP hS => ?_)
        refine z_topi (y := cLack st cz) rfl ?_
        refine lv_if_le (tgt := 90) hx hb dL_holds_83 (by decide) (fun c_83 => ?_) (fun c_83 => ?_)
        · refine lv_iconst (v := 0) hx hb dL_holds_90 (by decide) ?_
          refine lv_iadd hx hb dL_holds_91 ?_
          refine z_topi (y := sumN (lackN st) (cz + 1)) (lk_T c_83) ?_
          refine lv_istore (lv' := [(5, .int (sumN (lackN st) (cz + 1))), (4, .int (sumN (allL st) (cz + 1))), (3, .int (sumN (cTies st) (cz + 1))), (2, .int (sumN (cTold st) (cz + 1))), (8, .int 1), (0, .ref (ad 0)), (1, .int xz), (6, .int (sumN (fun z => sumN (hueN st (nI z)) 7) 0)), (7, .int (nI (fuW st cz))), (9, .int (nI cz))]) hx hb dL_holds_92 hl (by decide) rfl (fun ls hl => ?_)
          refine lv_aload_n hx hb dL_holds_94 rfl (lv_at hl 5 rfl) ?_
          refine lv_iload hx hb dL_holds_95 (lv_at hl 9 rfl) ?_
          refine lv_iconst (v := (nI 4)) hx hb dL_holds_97 (by decide) ?_
          obtain ⟨fs_98, hfs_98⟩ := hTT.rc
          refine z_Vi_eq (As := [.int (nI cz), .int (nI 4)]) (rest := []) C0 hP hS hl.1 (m_X4_cordOf l _ hTT hk2 (by decide) hI.pc) lk_L_15 hTT.n0 hfs_98 rfl rfl (Nat.le_of_ble_eq_true rfl) ⟨Nat.le_of_ble_eq_true rfl, Nat.le_of_ble_eq_true rfl⟩ rfl rfl ⟨Nat.zero_le _, Nat.zero_le _⟩ dL_holds_98 (fun H locs hP hS => ?_)
          refine z_topi (y := cTies st cz) rfl ?_
          refine lv_aload_n hx hb dL_holds_101 rfl (lv_at hl 5 rfl) ?_
          refine lv_iload hx hb dL_holds_102 (lv_at hl 8 rfl) ?_
          refine lv_iconst (v := (nI 4)) hx hb dL_holds_104 (by decide) ?_
          obtain ⟨fs_105, hfs_105⟩ := hTT.rc
          refine z_Vi_eq (As := [.int (nI (fuW st cz)), .int (nI 4)]) (rest := [.int (cTies st cz)]) C0 hP hS hl.1 (m_X4_cordOf l _ hTT (fuW_lt (by omega)) (by decide) hI.pc) lk_L_15 hTT.n0 hfs_105 rfl rfl (Nat.le_of_ble_eq_true rfl) ⟨Nat.le_of_ble_eq_true rfl, Nat.le_of_ble_eq_true rfl⟩ rfl rfl ⟨Nat.zero_le _, Nat.zero_le _⟩ dL_holds_105 (fun H locs hP hS => ?_)
          refine z_topi (y := cTies st (fuW st cz)) rfl ?_
          refine lv_icmp_le (tgt := 116) hx hb dL_holds_108 (by decide) (fun c_108 => ?_) (fun c_108 => ?_)
          · refine lv_iload hx hb dL_holds_116 (lv_at hl 8 rfl) ?_
            refine z_topi (y := nI (fuW st (cz + 1))) (congrArg nI (fuW_T c_108).symm) ?_
            refine lv_istore (lv' := [(7, .int (nI (fuW st (cz + 1)))), (5, .int (sumN (lackN st) (cz + 1))), (4, .int (sumN (allL st) (cz + 1))), (3, .int (sumN (cTies st) (cz + 1))), (2, .int (sumN (cTold st) (cz + 1))), (8, .int 1), (0, .ref (ad 0)), (1, .int xz), (6, .int (sumN (fun z => sumN (hueN st (nI z)) 7) 0)), (9, .int (nI cz))]) hx hb dL_holds_118 hl (by decide) rfl (fun ls hl => ?_)
            refine lv_iinc (v := nI (cz + 1)) (lv' := [(9, .int (nI (cz + 1))), (7, .int (nI (fuW st (cz + 1)))), (5, .int (sumN (lackN st) (cz + 1))), (4, .int (sumN (allL st) (cz + 1))), (3, .int (sumN (cTies st) (cz + 1))), (2, .int (sumN (cTold st) (cz + 1))), (8, .int 1), (0, .ref (ad 0)), (1, .int xz), (6, .int (sumN (fun z => sumN (hueN st (nI z)) 7) 0))]) hx hb dL_holds_120 hl (k := 9) rfl (z_inc _) (by decide) rfl (fun ls hl => ?_)
            refine lv_goto (tgt := 22) hx hb dL_holds_123 (by decide) ?_
            exact ih_22 (cz + 1) (by omega) (by omega) _ _ _ hP hS  (lv_sub hl [7, 8, 5, 4, 3, 2, 9, 1, 6, 0] rfl)
          · refine lv_iload hx hb dL_holds_111 (lv_at hl 9 rfl) ?_
            refine lv_goto (tgt := 118) hx hb dL_holds_113 (by decide) ?_
            refine z_topi (y := nI (fuW st (cz + 1))) (congrArg nI (fuW_F c_108).symm) ?_
            refine lv_istore (lv' := [(7, .int (nI (fuW st (cz + 1)))), (5, .int (sumN (lackN st) (cz + 1))), (4, .int (sumN (allL st) (cz + 1))), (3, .int (sumN (cTies st) (cz + 1))), (2, .int (sumN (cTold st) (cz + 1))), (8, .int 1), (0, .ref (ad 0)), (1, .int xz), (6, .int (sumN (fun z => sumN (hueN st (nI z)) 7) 0)), (9, .int (nI cz))]) hx hb dL_holds_118 hl (by decide) rfl (fun ls hl => ?_)
            refine lv_iinc (v := nI (cz + 1)) (lv' := [(9, .int (nI (cz + 1))), (7, .int (nI (fuW st (cz + 1)))), (5, .int (sumN (lackN st) (cz + 1))), (4, .int (sumN (allL st) (cz + 1))), (3, .int (sumN (cTies st) (cz + 1))), (2, .int (sumN (cTold st) (cz + 1))), (8, .int 1), (0, .ref (ad 0)), (1, .int xz), (6, .int (sumN (fun z => sumN (hueN st (nI z)) 7) 0))]) hx hb dL_holds_120 hl (k := 9) rfl (z_inc _) (by decide) rfl (fun ls hl => ?_)
            refine lv_goto (tgt := 22) hx hb dL_holds_123 (by decide) ?_
            exact ih_22 (cz + 1) (by omega) (by omega) _ _ _ hP hS  (lv_sub hl [7, 8, 5, 4, 3, 2, 9, 1, 6, 0] rfl)
        · refine lv_iconst (v := 1) hx hb dL_holds_86 (by decide) ?_
          refine lv_goto (tgt := 91) hx hb dL_holds_87 (by decide) ?_
          refine lv_iadd hx hb dL_holds_91 ?_
          refine z_topi (y := sumN (lackN st) (cz + 1)) (lk_F c_83) ?_
          refine lv_istore (lv' := [(5, .int (sumN (lackN st) (cz + 1))), (4, .int (sumN (allL st) (cz + 1))), (3, .int (sumN (cTies st) (cz + 1))), (2, .int (sumN (cTold st) (cz + 1))), (8, .int 1), (0, .ref (ad 0)), (1, .int xz), (6, .int (sumN (fun z => sumN (hueN st (nI z)) 7) 0)), (7, .int (nI (fuW st cz))), (9, .int (nI cz))]) hx hb dL_holds_92 hl (by decide) rfl (fun ls hl => ?_)
          refine lv_aload_n hx hb dL_holds_94 rfl (lv_at hl 5 rfl) ?_
          refine lv_iload hx hb dL_holds_95 (lv_at hl 9 rfl) ?_
          refine lv_iconst (v := (nI 4)) hx hb dL_holds_97 (by decide) ?_
          obtain ⟨fs_98, hfs_98⟩ := hTT.rc
          refine z_Vi_eq (As := [.int (nI cz), .int (nI 4)]) (rest := []) C0 hP hS hl.1 (m_X4_cordOf l _ hTT hk2 (by decide) hI.pc) lk_L_15 hTT.n0 hfs_98 rfl rfl (Nat.le_of_ble_eq_true rfl) ⟨Nat.le_of_ble_eq_true rfl, Nat.le_of_ble_eq_true rfl⟩ rfl rfl ⟨Nat.zero_le _, Nat.zero_le _⟩ dL_holds_98 (fun H locs hP hS => ?_)
          refine z_topi (y := cTies st cz) rfl ?_
          refine lv_aload_n hx hb dL_holds_101 rfl (lv_at hl 5 rfl) ?_
          refine lv_iload hx hb dL_holds_102 (lv_at hl 8 rfl) ?_
          refine lv_iconst (v := (nI 4)) hx hb dL_holds_104 (by decide) ?_
          obtain ⟨fs_105, hfs_105⟩ := hTT.rc
          refine z_Vi_eq (As := [.int (nI (fuW st cz)), .int (nI 4)]) (rest := [.int (cTies st cz)]) C0 hP hS hl.1 (m_X4_cordOf l _ hTT (fuW_lt (by omega)) (by decide) hI.pc) lk_L_15 hTT.n0 hfs_105 rfl rfl (Nat.le_of_ble_eq_true rfl) ⟨Nat.le_of_ble_eq_true rfl, Nat.le_of_ble_eq_true rfl⟩ rfl rfl ⟨Nat.zero_le _, Nat.zero_le _⟩ dL_holds_105 (fun H locs hP hS => ?_)
          refine z_topi (y := cTies st (fuW st cz)) rfl ?_
          refine lv_icmp_le (tgt := 116) hx hb dL_holds_108 (by decide) (fun c_108 => ?_) (fun c_108 => ?_)
          · refine lv_iload hx hb dL_holds_116 (lv_at hl 8 rfl) ?_
            refine z_topi (y := nI (fuW st (cz + 1))) (congrArg nI (fuW_T c_108).symm) ?_
            refine lv_istore (lv' := [(7, .int (nI (fuW st (cz + 1)))), (5, .int (sumN (lackN st) (cz + 1))), (4, .int (sumN (allL st) (cz + 1))), (3, .int (sumN (cTies st) (cz + 1))), (2, .int (sumN (cTold st) (cz + 1))), (8, .int 1), (0, .ref (ad 0)), (1, .int xz), (6, .int (sumN (fun z => sumN (hueN st (nI z)) 7) 0)), (9, .int (nI cz))]) hx hb dL_holds_118 hl (by decide) rfl (fun ls hl => ?_)
            refine lv_iinc (v := nI (cz + 1)) (lv' := [(9, .int (nI (cz + 1))), (7, .int (nI (fuW st (cz + 1)))), (5, .int (sumN (lackN st) (cz + 1))), (4, .int (sumN (allL st) (cz + 1))), (3, .int (sumN (cTies st) (cz + 1))), (2, .int (sumN (cTold st) (cz + 1))), (8, .int 1), (0, .ref (ad 0)), (1, .int xz), (6, .int (sumN (fun z => sumN (hueN st (nI z)) 7) 0))]) hx hb dL_holds_120 hl (k := 9) rfl (z_inc _) (by decide) rfl (fun ls hl => ?_)
            refine lv_goto (tgt := 22) hx hb dL_holds_123 (by decide) ?_
            exact ih_22 (cz + 1) (by omega) (by omega) _ _ _ hP hS  (lv_sub hl [7, 8, 5, 4, 3, 2, 9, 1, 6, 0] rfl)
          · refine lv_iload hx hb dL_holds_111 (lv_at hl 9 rfl) ?_
            refine lv_goto (tgt := 118) hx hb dL_holds_113 (by decide) ?_
            refine z_topi (y := nI (fuW st (cz + 1))) (congrArg nI (fuW_F c_108).symm) ?_
            refine lv_istore (lv' := [(7, .int (nI (fuW st (cz + 1)))), (5, .int (sumN (lackN st) (cz + 1))), (4, .int (sumN (allL st) (cz + 1))), (3, .int (sumN (cTies st) (cz + 1))), (2, .int (sumN (cTold st) (cz + 1))), (8, .int 1), (0, .ref (ad 0)), (1, .int xz), (6, .int (sumN (fun z => sumN (hueN st (nI z)) 7) 0)), (9, .int (nI cz))]) hx hb dL_holds_118 hl (by decide) rfl (fun ls hl => ?_)
            refine lv_iinc (v := nI (cz + 1)) (lv' := [(9, .int (nI (cz + 1))), (7, .int (nI (fuW st (cz + 1)))), (5, .int (sumN (lackN st) (cz + 1))), (4, .int (sumN (allL st) (cz + 1))), (3, .int (sumN (cTies st) (cz + 1))), (2, .int (sumN (cTold st) (cz + 1))), (8, .int 1), (0, .ref (ad 0)), (1, .int xz), (6, .int (sumN (fun z => sumN (hueN st (nI z)) 7) 0))]) hx hb dL_holds_120 hl (k := 9) rfl (z_inc _) (by decide) rfl (fun ls hl => ?_)
            refine lv_goto (tgt := 22) hx hb dL_holds_123 (by decide) ?_
            exact ih_22 (cz + 1) (by omega) (by omega) _ _ _ hP hS  (lv_sub hl [7, 8, 5, 4, 3, 2, 9, 1, 6, 0] rfl)
  exact lp_22 _ 0 (by decide) (Nat.lt_succ_self _) _ _ _ hP hS  (lv_sub hl [8, 9, 7, 6, 5, 4, 3, 2, 1, 0] rfl)
