/-! ===== the law's calls that catch ===== -/
theorem lh_tie : zLh RL 83 yL_tie cL_tie 5 (some .int) [(0, 10, 13, 13), (0, 10, 17, 15)] 4 := zLh.of q562 q563 q51 q564 (by decide +kernel)
set_option maxHeartbeats 1000000 in
theorem wok_tie (l : Launch) {D : va_G} {cy : Nat → ClassId} {K : Nat} {ad : Nat → Nat} {g : Nat → va_E} (sz : Nat) {p0 p1 : Int32} {rm : Room} {v : Int32} {w : Int64} {C C2 : zCR} (hT : cT cy K ad g C) (hO : oV cy K g w) (hrc : rm.cells = 0) (hrs : rm.slots = 0) (hR : rm.frames + 1 ≤ 20 ∧ 8 + (4 + 11) + rm.locals ≤ 440) (hM : ∀ sz, Met l yX4_tie (zs yX4_tie cX4_tie 4 (some .int)) rm (va_Pc [.ref (ad 0), .int p0, .int p1] (zIn D cy K ad g sz)) (va_Qi (fun r g1 => r = v ∧ cT cy K ad g1 C2 ∧ zFr zCl g g1) (zOut D cy K ad sz) (zA K ad sz)) 0 0 (zA K ad sz)) : wM l yL_tie cL_tie 5 [(0, 10, 13, 13), (0, 10, 17, 15)] [.ref (ad 0), .int p0, .int p1, .ref (ad 230)] D cy K ad g sz 0 v C2 := by
  refine z_metW (by decide) (Nat.le_of_ble_eq_true rfl) (fun p e s m below meth c ls hsz hl C0 htab hTh hN hr hP hS => ?_)
  subst hsz
  have hl : lv_has ls 5 [(0, .ref (ad 0)), (1, .int p0), (2, .int p1), (3, .ref (ad 230))] := hl
  have hx := C0.1; have hb := C0.2.1; have hts := C0.2.2.2.2.1
  obtain ⟨hO1, f, hO2, hO3⟩ := hO
  obtain ⟨fs, hfs⟩ := hT.rc
  refine W.widen (k := 1) (n := 6) (Nat.zero_le _) (Nat.zero_le _) ?_
  refine lv_aload_n hx hb dL_tie_0 rfl (lv_at hl 3 rfl) ?_
  refine lv_iconst (v := 0) hx hb dL_tie_1 (by decide) ?_
  refine lv_aload_n hx hb dL_tie_2 rfl (lv_at hl 0 rfl) ?_
  refine lv_iload_n hx hb dL_tie_3 rfl (lv_at hl 1 rfl) ?_
  refine lv_iload_n hx hb dL_tie_4 rfl (lv_at hl 2 rfl) ?_
  refine z_Vi_mo (As := [.int p0, .int p1]) (rest := [.int 0, .ref (ad 230)]) C0 hP hS hl.1 (hM _) lk_L_7 hT.n0 hfs rfl rfl (Nat.le_of_ble_eq_true rfl) hR hrc hrs ⟨Nat.le_of_ble_eq_true rfl, Nat.le_of_ble_eq_true rfl⟩ dL_tie_5 (fun r g1 H locs hP hS hp => ?_)
  obtain ⟨hr1, hT2, hF⟩ := hp
  subst hr1
  have hO3 := (hF 230 (by unfold zCl; omega)).trans hO2
  refine lv_i2l (v := r.toInt64) hx hb dL_tie_8 rfl ?_
  refine z_last C0 hP hS hO1 hO3 (zIx_of nI_0.symm (by decide) (by decide)) dL_tie_9 (fun H locs hP hS => ?_)
  refine lv_goto (tgt := 21) hx hb dL_tie_10 (by decide) ?_
  refine lv_iconst (v := 0) hx hb dL_tie_21 (by decide) ?_
  exact z_iret C0 hP hS hr ⟨rfl, hT2.kept (P := fun z => z = 230) (zFr.up zFr.rf rfl) (fun z h q => by subst q; unfold zCl at h; omega), ⟨_, ⟨hO1, _, va_up_self _ _ _, if_pos rfl⟩, fun _ => rfl⟩, (hF.mono (fun z h => Or.inl h)).up (Or.inr rfl)⟩ dL_tie_22
set_option maxHeartbeats 1000000 in
theorem wx1_tie (l : Launch) {D : va_G} {cy : Nat → ClassId} {K : Nat} {ad : Nat → Nat} {g : Nat → va_E} (sz : Nat) {p0 p1 : Int32} {rm : Room} {v : Int32} {w : Int64} {C C2 : zCR} (hT : cT cy K ad g C) (hO : oV cy K g w) (hrc : rm.cells = 1) (hrs : rm.slots = 6) (hR : rm.frames + 1 ≤ 20 ∧ 8 + (4 + 11) + rm.locals ≤ 440) (hM : ∀ sz, zXMr l yX4_tie cX4_tie 4 (some .int) rm [.ref (ad 0), .int p0, .int p1] D cy K ad g sz zIOB (fun g1 => cT cy K ad g1 C2 ∧ zFr zCl g g1)) : wM l yL_tie cL_tie 5 [(0, 10, 13, 13), (0, 10, 17, 15)] [.ref (ad 0), .int p0, .int p1, .ref (ad 230)] D cy K ad g sz 1 v C2 := by
  refine z_metW (by decide) (Nat.le_of_ble_eq_true rfl) (fun p e s m below meth c ls hsz hl C0 htab hTh hN hr hP hS => ?_)
  subst hsz
  have hl : lv_has ls 5 [(0, .ref (ad 0)), (1, .int p0), (2, .int p1), (3, .ref (ad 230))] := hl
  have hx := C0.1; have hb := C0.2.1; have hts := C0.2.2.2.2.1
  obtain ⟨hO1, f, hO2, hO3⟩ := hO
  obtain ⟨fs, hfs⟩ := hT.rc
  refine lv_aload_n hx hb dL_tie_0 rfl (lv_at hl 3 rfl) ?_
  refine lv_iconst (v := 0) hx hb dL_tie_1 (by decide) ?_
  refine lv_aload_n hx hb dL_tie_2 rfl (lv_at hl 0 rfl) ?_
  refine lv_iload_n hx hb dL_tie_3 rfl (lv_at hl 1 rfl) ?_
  refine lv_iload_n hx hb dL_tie_4 rfl (lv_at hl 2 rfl) ?_
  refine z_thrownr C0 hP hS (z_runVXr (As := [.int p0, .int p1]) (rest := [.int 0, .ref (ad 230)]) C0 hTh hP hS hl.1 (hM _) lk_L_7 hT.n0 hfs rfl rfl (Nat.le_of_ble_eq_true rfl) hrc hrs hR ⟨Nat.le_of_ble_eq_true rfl, Nat.le_of_ble_eq_true rfl⟩ dL_tie_5) (fun g1 ce q9 H locs hp hP hS hce hcv hcl => ?_)
  obtain ⟨hT2, hF⟩ := hp
  refine vx_catch (own := RL) (name := zIOB) (E := zIOB) C0.2.2.2.1 [] ⟨0, 10, 13, 13⟩ [⟨0, 10, 17, 15⟩] htab (fun z hz => absurd hz List.not_mem_nil) (by decide) (by decide) (hts _ q565) ((hTh.2.2.1 zIOB (by simp [zEs])).use rfl) hce hcv hcl ?_
  refine lv_astore (lv' := [(4, .ref q9), (0, .ref (ad 0)), (1, .int p0), (2, .int p1), (3, .ref (ad 230))]) hx hb dL_tie_13 hl (by decide) rfl (fun ls hl => ?_)
  refine lv_iconst (v := 1) hx hb dL_tie_15 (by decide) ?_
  exact z_iret C0 hP hS hr ⟨rfl, hT2, ⟨_, ⟨hO1, f, (hF 230 (by unfold zCl; omega)).trans hO2, hO3⟩, fun h => absurd h (by decide)⟩, hF.mono (fun z h => Or.inl h)⟩ dL_tie_16
set_option maxHeartbeats 1000000 in
theorem wx2_tie (l : Launch) {D : va_G} {cy : Nat → ClassId} {K : Nat} {ad : Nat → Nat} {g : Nat → va_E} (sz : Nat) {p0 p1 : Int32} {rm : Room} {v : Int32} {w : Int64} {C C2 : zCR} (hT : cT cy K ad g C) (hO : oV cy K g w) (hrc : rm.cells = 1) (hrs : rm.slots = 6) (hR : rm.frames + 1 ≤ 20 ∧ 8 + (4 + 11) + rm.locals ≤ 440) (hM : ∀ sz, zXMr l yX4_tie cX4_tie 4 (some .int) rm [.ref (ad 0), .int p0, .int p1] D cy K ad g sz zIAE (fun g1 => cT cy K ad g1 C2 ∧ zFr zCl g g1)) : wM l yL_tie cL_tie 5 [(0, 10, 13, 13), (0, 10, 17, 15)] [.ref (ad 0), .int p0, .int p1, .ref (ad 230)] D cy K ad g sz 2 v C2 := by
  refine z_metW (by decide) (Nat.le_of_ble_eq_true rfl) (fun p e s m below meth c ls hsz hl C0 htab hTh hN hr hP hS => ?_)
  subst hsz
  have hl : lv_has ls 5 [(0, .ref (ad 0)), (1, .int p0), (2, .int p1), (3, .ref (ad 230))] := hl
  have hx := C0.1; have hb := C0.2.1; have hts := C0.2.2.2.2.1
  obtain ⟨hO1, f, hO2, hO3⟩ := hO
  obtain ⟨fs, hfs⟩ := hT.rc
  refine lv_aload_n hx hb dL_tie_0 rfl (lv_at hl 3 rfl) ?_
  refine lv_iconst (v := 0) hx hb dL_tie_1 (by decide) ?_
  refine lv_aload_n hx hb dL_tie_2 rfl (lv_at hl 0 rfl) ?_
  refine lv_iload_n hx hb dL_tie_3 rfl (lv_at hl 1 rfl) ?_
  refine lv_iload_n hx hb dL_tie_4 rfl (lv_at hl 2 rfl) ?_
  refine z_thrownr C0 hP hS (z_runVXr (As := [.int p0, .int p1]) (rest := [.int 0, .ref (ad 230)]) C0 hTh hP hS hl.1 (hM _) lk_L_7 hT.n0 hfs rfl rfl (Nat.le_of_ble_eq_true rfl) hrc hrs hR ⟨Nat.le_of_ble_eq_true rfl, Nat.le_of_ble_eq_true rfl⟩ dL_tie_5) (fun g1 ce q9 H locs hp hP hS hce hcv hcl => ?_)
  obtain ⟨hT2, hF⟩ := hp
  refine vx_catch (own := RL) (name := zIAE) (E := zIAE) C0.2.2.2.1 [⟨0, 10, 13, 13⟩] ⟨0, 10, 17, 15⟩ [] htab (fun z hz => by rw [List.mem_singleton.mp hz]; exact Or.inr ⟨by decide, zIOB, hts _ q565, hN.1⟩) (by decide) (by decide) (hts _ q566) ((hTh.2.2.1 zIAE (by simp [zEs])).use rfl) hce hcv hcl ?_
  refine lv_astore (lv' := [(4, .ref q9), (0, .ref (ad 0)), (1, .int p0), (2, .int p1), (3, .ref (ad 230))]) hx hb dL_tie_17 hl (by decide) rfl (fun ls hl => ?_)
  refine lv_iconst (v := 2) hx hb dL_tie_19 (by decide) ?_
  exact z_iret C0 hP hS hr ⟨rfl, hT2, ⟨_, ⟨hO1, f, (hF 230 (by unfold zCl; omega)).trans hO2, hO3⟩, fun h => absurd h (by decide)⟩, hF.mono (fun z h => Or.inl h)⟩ dL_tie_20
theorem lh_add : zLh RL 92 yL_add cL_add 5 (some .int) [(0, 10, 13, 13), (0, 10, 17, 15)] 4 := zLh.of q593 q594 q51 q595 (by decide +kernel)
set_option maxHeartbeats 1000000 in
theorem wok_add (l : Launch) {D : va_G} {cy : Nat → ClassId} {K : Nat} {ad : Nat → Nat} {g : Nat → va_E} (sz : Nat) {p0 p1 : Int32} {rm : Room} {v : Int32} {w : Int64} {C C2 : zCR} (hT : cT cy K ad g C) (hO : oV cy K g w) (hrc : rm.cells = 0) (hrs : rm.slots = 0) (hR : rm.frames + 1 ≤ 20 ∧ 8 + (5 + 11) + rm.locals ≤ 440) (hM : ∀ sz, Met l yX4_add (zs yX4_add cX4_add 5 (some .int)) rm (va_Pc [.ref (ad 0), .int p0, .int p1] (zIn D cy K ad g sz)) (va_Qi (fun r g1 => r = v ∧ cT cy K ad g1 C2 ∧ zFr zCl g g1) (zOut D cy K ad sz) (zA K ad sz)) 0 0 (zA K ad sz)) : wM l yL_add cL_add 5 [(0, 10, 13, 13), (0, 10, 17, 15)] [.ref (ad 0), .int p0, .int p1, .ref (ad 230)] D cy K ad g sz 0 v C2 := by
  refine z_metW (by decide) (Nat.le_of_ble_eq_true rfl) (fun p e s m below meth c ls hsz hl C0 htab hTh hN hr hP hS => ?_)
  subst hsz
  have hl : lv_has ls 5 [(0, .ref (ad 0)), (1, .int p0), (2, .int p1), (3, .ref (ad 230))] := hl
  have hx := C0.1; have hb := C0.2.1; have hts := C0.2.2.2.2.1
  obtain ⟨hO1, f, hO2, hO3⟩ := hO
  obtain ⟨fs, hfs⟩ := hT.rc
  refine W.widen (k := 1) (n := 6) (Nat.zero_le _) (Nat.zero_le _) ?_
  refine lv_aload_n hx hb dL_add_0 rfl (lv_at hl 3 rfl) ?_
  refine lv_iconst (v := 0) hx hb dL_add_1 (by decide) ?_
  refine lv_aload_n hx hb dL_add_2 rfl (lv_at hl 0 rfl) ?_
  refine lv_iload_n hx hb dL_add_3 rfl (lv_at hl 1 rfl) ?_
  refine lv_iload_n hx hb dL_add_4 rfl (lv_at hl 2 rfl) ?_
  refine z_Vi_mo (As := [.int p0, .int p1]) (rest := [.int 0, .ref (ad 230)]) C0 hP hS hl.1 (hM _) lk_L_17 hT.n0 hfs rfl rfl (Nat.le_of_ble_eq_true rfl) hR hrc hrs ⟨Nat.le_of_ble_eq_true rfl, Nat.le_of_ble_eq_true rfl⟩ dL_add_5 (fun r g1 H locs hP hS hp => ?_)
  obtain ⟨hr1, hT2, hF⟩ := hp
  subst hr1
  have hO3 := (hF 230 (by unfold zCl; omega)).trans hO2
  refine lv_i2l (v := r.toInt64) hx hb dL_add_8 rfl ?_
  refine z_last C0 hP hS hO1 hO3 (zIx_of nI_0.symm (by decide) (by decide)) dL_add_9 (fun H locs hP hS => ?_)
  refine lv_goto (tgt := 21) hx hb dL_add_10 (by decide) ?_
  refine lv_iconst (v := 0) hx hb dL_add_21 (by decide) ?_
  exact z_iret C0 hP hS hr ⟨rfl, hT2.kept (P := fun z => z = 230) (zFr.up zFr.rf rfl) (fun z h q => by subst q; unfold zCl at h; omega), ⟨_, ⟨hO1, _, va_up_self _ _ _, if_pos rfl⟩, fun _ => rfl⟩, (hF.mono (fun z h => Or.inl h)).up (Or.inr rfl)⟩ dL_add_22
set_option maxHeartbeats 1000000 in
theorem wx1_add (l : Launch) {D : va_G} {cy : Nat → ClassId} {K : Nat} {ad : Nat → Nat} {g : Nat → va_E} (sz : Nat) {p0 p1 : Int32} {rm : Room} {v : Int32} {w : Int64} {C C2 : zCR} (hT : cT cy K ad g C) (hO : oV cy K g w) (hrc : rm.cells = 1) (hrs : rm.slots = 6) (hR : rm.frames + 1 ≤ 20 ∧ 8 + (5 + 11) + rm.locals ≤ 440) (hM : ∀ sz, zXMr l yX4_add cX4_add 5 (some .int) rm [.ref (ad 0), .int p0, .int p1] D cy K ad g sz zIOB (fun g1 => cT cy K ad g1 C2 ∧ zFr zCl g g1)) : wM l yL_add cL_add 5 [(0, 10, 13, 13), (0, 10, 17, 15)] [.ref (ad 0), .int p0, .int p1, .ref (ad 230)] D cy K ad g sz 1 v C2 := by
  refine z_metW (by decide) (Nat.le_of_ble_eq_true rfl) (fun p e s m below meth c ls hsz hl C0 htab hTh hN hr hP hS => ?_)
  subst hsz
  have hl : lv_has ls 5 [(0, .ref (ad 0)), (1, .int p0), (2, .int p1), (3, .ref (ad 230))] := hl
  have hx := C0.1; have hb := C0.2.1; have hts := C0.2.2.2.2.1
  obtain ⟨hO1, f, hO2, hO3⟩ := hO
  obtain ⟨fs, hfs⟩ := hT.rc
  refine lv_aload_n hx hb dL_add_0 rfl (lv_at hl 3 rfl) ?_
  refine lv_iconst (v := 0) hx hb dL_add_1 (by decide) ?_
  refine lv_aload_n hx hb dL_add_2 rfl (lv_at hl 0 rfl) ?_
  refine lv_iload_n hx hb dL_add_3 rfl (lv_at hl 1 rfl) ?_
  refine lv_iload_n hx hb dL_add_4 rfl (lv_at hl 2 rfl) ?_
  refine z_thrownr C0 hP hS (z_runVXr (As := [.int p0, .int p1]) (rest := [.int 0, .ref (ad 230)]) C0 hTh hP hS hl.1 (hM _) lk_L_17 hT.n0 hfs rfl rfl (Nat.le_of_ble_eq_true rfl) hrc hrs hR ⟨Nat.le_of_ble_eq_true rfl, Nat.le_of_ble_eq_true rfl⟩ dL_add_5) (fun g1 ce q9 H locs hp hP hS hce hcv hcl => ?_)
  obtain ⟨hT2, hF⟩ := hp
  refine vx_catch (own := RL) (name := zIOB) (E := zIOB) C0.2.2.2.1 [] ⟨0, 10, 13, 13⟩ [⟨0, 10, 17, 15⟩] htab (fun z hz => absurd hz List.not_mem_nil) (by decide) (by decide) (hts _ q565) ((hTh.2.2.1 zIOB (by simp [zEs])).use rfl) hce hcv hcl ?_
  refine lv_astore (lv' := [(4, .ref q9), (0, .ref (ad 0)), (1, .int p0), (2, .int p1), (3, .ref (ad 230))]) hx hb dL_add_13 hl (by decide) rfl (fun ls hl => ?_)
  refine lv_iconst (v := 1) hx hb dL_add_15 (by decide) ?_
  exact z_iret C0 hP hS hr ⟨rfl, hT2, ⟨_, ⟨hO1, f, (hF 230 (by unfold zCl; omega)).trans hO2, hO3⟩, fun h => absurd h (by decide)⟩, hF.mono (fun z h => Or.inl h)⟩ dL_add_16
set_option maxHeartbeats 1000000 in
theorem wx2_add (l : Launch) {D : va_G} {cy : Nat → ClassId} {K : Nat} {ad : Nat → Nat} {g : Nat → va_E} (sz : Nat) {p0 p1 : Int32} {rm : Room} {v : Int32} {w : Int64} {C C2 : zCR} (hT : cT cy K ad g C) (hO : oV cy K g w) (hrc : rm.cells = 1) (hrs : rm.slots = 6) (hR : rm.frames + 1 ≤ 20 ∧ 8 + (5 + 11) + rm.locals ≤ 440) (hM : ∀ sz, zXMr l yX4_add cX4_add 5 (some .int) rm [.ref (ad 0), .int p0, .int p1] D cy K ad g sz zIAE (fun g1 => cT cy K ad g1 C2 ∧ zFr zCl g g1)) : wM l yL_add cL_add 5 [(0, 10, 13, 13), (0, 10, 17, 15)] [.ref (ad 0), .int p0, .int p1, .ref (ad 230)] D cy K ad g sz 2 v C2 := by
  refine z_metW (by decide) (Nat.le_of_ble_eq_true rfl) (fun p e s m below meth c ls hsz hl C0 htab hTh hN hr hP hS => ?_)
  subst hsz
  have hl : lv_has ls 5 [(0, .ref (ad 0)), (1, .int p0), (2, .int p1), (3, .ref (ad 230))] := hl
  have hx := C0.1; have hb := C0.2.1; have hts := C0.2.2.2.2.1
  obtain ⟨hO1, f, hO2, hO3⟩ := hO
  obtain ⟨fs, hfs⟩ := hT.rc
  refine lv_aload_n hx hb dL_add_0 rfl (lv_at hl 3 rfl) ?_
  refine lv_iconst (v := 0) hx hb dL_add_1 (by decide) ?_
  refine lv_aload_n hx hb dL_add_2 rfl (lv_at hl 0 rfl) ?_
  refine lv_iload_n hx hb dL_add_3 rfl (lv_at hl 1 rfl) ?_
  refine lv_iload_n hx hb dL_add_4 rfl (lv_at hl 2 rfl) ?_
  refine z_thrownr C0 hP hS (z_runVXr (As := [.int p0, .int p1]) (rest := [.int 0, .ref (ad 230)]) C0 hTh hP hS hl.1 (hM _) lk_L_17 hT.n0 hfs rfl rfl (Nat.le_of_ble_eq_true rfl) hrc hrs hR ⟨Nat.le_of_ble_eq_true rfl, Nat.le_of_ble_eq_true rfl⟩ dL_add_5) (fun g1 ce q9 H locs hp hP hS hce hcv hcl => ?_)
  obtain ⟨hT2, hF⟩ := hp
  refine vx_catch (own := RL) (name := zIAE) (E := zIAE) C0.2.2.2.1 [⟨0, 10, 13, 13⟩] ⟨0, 10, 17, 15⟩ [] htab (fun z hz => by rw [List.mem_singleton.mp hz]; exact Or.inr ⟨by decide, zIOB, hts _ q565, hN.1⟩) (by decide) (by decide) (hts _ q566) ((hTh.2.2.1 zIAE (by simp [zEs])).use rfl) hce hcv hcl ?_
  refine lv_astore (lv' := [(4, .ref q9), (0, .ref (ad 0)), (1, .int p0), (2, .int p1), (3, .ref (ad 230))]) hx hb dL_add_17 hl (by decide) rfl (fun ls hl => ?_)
  refine lv_iconst (v := 2) hx hb dL_add_19 (by decide) ?_
  exact z_iret C0 hP hS hr ⟨rfl, hT2, ⟨_, ⟨hO1, f, (hF 230 (by unfold zCl; omega)).trans hO2, hO3⟩, fun h => absurd h (by decide)⟩, hF.mono (fun z h => Or.inl h)⟩ dL_add_20
theorem lh_slip : zLh RL 95 yL_slip cL_slip 5 (some .int) [(0, 10, 13, 13)] 4 := zLh.of q606 q607 q51 q608 (by decide +kernel)
set_option maxHeartbeats 1000000 in
theorem wok_slip (l : Launch) {D : va_G} {cy : Nat → ClassId} {K : Nat} {ad : Nat → Nat} {g : Nat → va_E} (sz : Nat) {p0 p1 : Int32} {rm : Room} {v : Int32} {w : Int64} {C C2 : zCR} (hT : cT cy K ad g C) (hO : oV cy K g w) (hrc : rm.cells = 0) (hrs : rm.slots = 0) (hR : rm.frames + 1 ≤ 20 ∧ 8 + (4 + 11) + rm.locals ≤ 440) (hM : ∀ sz, Met l yX4_slip (zs yX4_slip cX4_slip 4 (some .int)) rm (va_Pc [.ref (ad 0), .int p0, .int p1] (zIn D cy K ad g sz)) (va_Qi (fun r g1 => r = v ∧ cT cy K ad g1 C2 ∧ zFr zCl g g1) (zOut D cy K ad sz) (zA K ad sz)) 0 0 (zA K ad sz)) : wM l yL_slip cL_slip 5 [(0, 10, 13, 13)] [.ref (ad 0), .int p0, .int p1, .ref (ad 230)] D cy K ad g sz 0 v C2 := by
  refine z_metW (by decide) (Nat.le_of_ble_eq_true rfl) (fun p e s m below meth c ls hsz hl C0 htab hTh hN hr hP hS => ?_)
  subst hsz
  have hl : lv_has ls 5 [(0, .ref (ad 0)), (1, .int p0), (2, .int p1), (3, .ref (ad 230))] := hl
  have hx := C0.1; have hb := C0.2.1; have hts := C0.2.2.2.2.1
  obtain ⟨hO1, f, hO2, hO3⟩ := hO
  obtain ⟨fs, hfs⟩ := hT.rc
  refine W.widen (k := 1) (n := 6) (Nat.zero_le _) (Nat.zero_le _) ?_
  refine lv_aload_n hx hb dL_slip_0 rfl (lv_at hl 3 rfl) ?_
  refine lv_iconst (v := 0) hx hb dL_slip_1 (by decide) ?_
  refine lv_aload_n hx hb dL_slip_2 rfl (lv_at hl 0 rfl) ?_
  refine lv_iload_n hx hb dL_slip_3 rfl (lv_at hl 1 rfl) ?_
  refine lv_iload_n hx hb dL_slip_4 rfl (lv_at hl 2 rfl) ?_
  refine z_Vi_mo (As := [.int p0, .int p1]) (rest := [.int 0, .ref (ad 230)]) C0 hP hS hl.1 (hM _) lk_L_20 hT.n0 hfs rfl rfl (Nat.le_of_ble_eq_true rfl) hR hrc hrs ⟨Nat.le_of_ble_eq_true rfl, Nat.le_of_ble_eq_true rfl⟩ dL_slip_5 (fun r g1 H locs hP hS hp => ?_)
  obtain ⟨hr1, hT2, hF⟩ := hp
  subst hr1
  have hO3 := (hF 230 (by unfold zCl; omega)).trans hO2
  refine lv_i2l (v := r.toInt64) hx hb dL_slip_8 rfl ?_
  refine z_last C0 hP hS hO1 hO3 (zIx_of nI_0.symm (by decide) (by decide)) dL_slip_9 (fun H locs hP hS => ?_)
  refine lv_goto (tgt := 17) hx hb dL_slip_10 (by decide) ?_
  refine lv_iconst (v := 0) hx hb dL_slip_17 (by decide) ?_
  exact z_iret C0 hP hS hr ⟨rfl, hT2.kept (P := fun z => z = 230) (zFr.up zFr.rf rfl) (fun z h q => by subst q; unfold zCl at h; omega), ⟨_, ⟨hO1, _, va_up_self _ _ _, if_pos rfl⟩, fun _ => rfl⟩, (hF.mono (fun z h => Or.inl h)).up (Or.inr rfl)⟩ dL_slip_18
set_option maxHeartbeats 1000000 in
theorem wx1_slip (l : Launch) {D : va_G} {cy : Nat → ClassId} {K : Nat} {ad : Nat → Nat} {g : Nat → va_E} (sz : Nat) {p0 p1 : Int32} {rm : Room} {v : Int32} {w : Int64} {C C2 : zCR} (hT : cT cy K ad g C) (hO : oV cy K g w) (hrc : rm.cells = 1) (hrs : rm.slots = 6) (hR : rm.frames + 1 ≤ 20 ∧ 8 + (4 + 11) + rm.locals ≤ 440) (hM : ∀ sz, zXMr l yX4_slip cX4_slip 4 (some .int) rm [.ref (ad 0), .int p0, .int p1] D cy K ad g sz zIOB (fun g1 => cT cy K ad g1 C2 ∧ zFr zCl g g1)) : wM l yL_slip cL_slip 5 [(0, 10, 13, 13)] [.ref (ad 0), .int p0, .int p1, .ref (ad 230)] D cy K ad g sz 1 v C2 := by
  refine z_metW (by decide) (Nat.le_of_ble_eq_true rfl) (fun p e s m below meth c ls hsz hl C0 htab hTh hN hr hP hS => ?_)
  subst hsz
  have hl : lv_has ls 5 [(0, .ref (ad 0)), (1, .int p0), (2, .int p1), (3, .ref (ad 230))] := hl
  have hx := C0.1; have hb := C0.2.1; have hts := C0.2.2.2.2.1
  obtain ⟨hO1, f, hO2, hO3⟩ := hO
  obtain ⟨fs, hfs⟩ := hT.rc
  refine lv_aload_n hx hb dL_slip_0 rfl (lv_at hl 3 rfl) ?_
  refine lv_iconst (v := 0) hx hb dL_slip_1 (by decide) ?_
  refine lv_aload_n hx hb dL_slip_2 rfl (lv_at hl 0 rfl) ?_
  refine lv_iload_n hx hb dL_slip_3 rfl (lv_at hl 1 rfl) ?_
  refine lv_iload_n hx hb dL_slip_4 rfl (lv_at hl 2 rfl) ?_
  refine z_thrownr C0 hP hS (z_runVXr (As := [.int p0, .int p1]) (rest := [.int 0, .ref (ad 230)]) C0 hTh hP hS hl.1 (hM _) lk_L_20 hT.n0 hfs rfl rfl (Nat.le_of_ble_eq_true rfl) hrc hrs hR ⟨Nat.le_of_ble_eq_true rfl, Nat.le_of_ble_eq_true rfl⟩ dL_slip_5) (fun g1 ce q9 H locs hp hP hS hce hcv hcl => ?_)
  obtain ⟨hT2, hF⟩ := hp
  refine vx_catch (own := RL) (name := zIOB) (E := zIOB) C0.2.2.2.1 [] ⟨0, 10, 13, 13⟩ [] htab (fun z hz => absurd hz List.not_mem_nil) (by decide) (by decide) (hts _ q565) ((hTh.2.2.1 zIOB (by simp [zEs])).use rfl) hce hcv hcl ?_
  refine lv_astore (lv' := [(4, .ref q9), (0, .ref (ad 0)), (1, .int p0), (2, .int p1), (3, .ref (ad 230))]) hx hb dL_slip_13 hl (by decide) rfl (fun ls hl => ?_)
  refine lv_iconst (v := 1) hx hb dL_slip_15 (by decide) ?_
  exact z_iret C0 hP hS hr ⟨rfl, hT2, ⟨_, ⟨hO1, f, (hF 230 (by unfold zCl; omega)).trans hO2, hO3⟩, fun h => absurd h (by decide)⟩, hF.mono (fun z h => Or.inl h)⟩ dL_slip_16
theorem lh_mend : zLh RL 98 yL_mend cL_mend 4 (some .int) [(0, 9, 12, 13)] 3 := zLh.of q618 q619 q51 q620 (by decide +kernel)
set_option maxHeartbeats 1000000 in
theorem wok_mend (l : Launch) {D : va_G} {cy : Nat → ClassId} {K : Nat} {ad : Nat → Nat} {g : Nat → va_E} (sz : Nat) {p0 : Int32} {rm : Room} {v : Int32} {w : Int64} {C C2 : zCR} (hT : cT cy K ad g C) (hO : oV cy K g w) (hrc : rm.cells = 0) (hrs : rm.slots = 0) (hR : rm.frames + 1 ≤ 20 ∧ 8 + (3 + 11) + rm.locals ≤ 440) (hM : ∀ sz, Met l yX4_mend (zs yX4_mend cX4_mend 3 (some .int)) rm (va_Pc [.ref (ad 0), .int p0] (zIn D cy K ad g sz)) (va_Qi (fun r g1 => r = v ∧ cT cy K ad g1 C2 ∧ zFr zCl g g1) (zOut D cy K ad sz) (zA K ad sz)) 0 0 (zA K ad sz)) : wM l yL_mend cL_mend 4 [(0, 9, 12, 13)] [.ref (ad 0), .int p0, .ref (ad 230)] D cy K ad g sz 0 v C2 := by
  refine z_metW (by decide) (Nat.le_of_ble_eq_true rfl) (fun p e s m below meth c ls hsz hl C0 htab hTh hN hr hP hS => ?_)
  subst hsz
  have hl : lv_has ls 4 [(0, .ref (ad 0)), (1, .int p0), (2, .ref (ad 230))] := hl
  have hx := C0.1; have hb := C0.2.1; have hts := C0.2.2.2.2.1
  obtain ⟨hO1, f, hO2, hO3⟩ := hO
  obtain ⟨fs, hfs⟩ := hT.rc
  refine W.widen (k := 1) (n := 6) (Nat.zero_le _) (Nat.zero_le _) ?_
  refine lv_aload_n hx hb dL_mend_0 rfl (lv_at hl 2 rfl) ?_
  refine lv_iconst (v := 0) hx hb dL_mend_1 (by decide) ?_
  refine lv_aload_n hx hb dL_mend_2 rfl (lv_at hl 0 rfl) ?_
  refine lv_iload_n hx hb dL_mend_3 rfl (lv_at hl 1 rfl) ?_
  refine z_Vi_mo (As := [.int p0]) (rest := [.int 0, .ref (ad 230)]) C0 hP hS hl.1 (hM _) lk_L_23 hT.n0 hfs rfl rfl (Nat.le_of_ble_eq_true rfl) hR hrc hrs ⟨Nat.le_of_ble_eq_true rfl, Nat.le_of_ble_eq_true rfl⟩ dL_mend_4 (fun r g1 H locs hP hS hp => ?_)
  obtain ⟨hr1, hT2, hF⟩ := hp
  subst hr1
  have hO3 := (hF 230 (by unfold zCl; omega)).trans hO2
  refine lv_i2l (v := r.toInt64) hx hb dL_mend_7 rfl ?_
  refine z_last C0 hP hS hO1 hO3 (zIx_of nI_0.symm (by decide) (by decide)) dL_mend_8 (fun H locs hP hS => ?_)
  refine lv_goto (tgt := 15) hx hb dL_mend_9 (by decide) ?_
  refine lv_iconst (v := 0) hx hb dL_mend_15 (by decide) ?_
  exact z_iret C0 hP hS hr ⟨rfl, hT2.kept (P := fun z => z = 230) (zFr.up zFr.rf rfl) (fun z h q => by subst q; unfold zCl at h; omega), ⟨_, ⟨hO1, _, va_up_self _ _ _, if_pos rfl⟩, fun _ => rfl⟩, (hF.mono (fun z h => Or.inl h)).up (Or.inr rfl)⟩ dL_mend_16
set_option maxHeartbeats 1000000 in
theorem wx1_mend (l : Launch) {D : va_G} {cy : Nat → ClassId} {K : Nat} {ad : Nat → Nat} {g : Nat → va_E} (sz : Nat) {p0 : Int32} {rm : Room} {v : Int32} {w : Int64} {C C2 : zCR} (hT : cT cy K ad g C) (hO : oV cy K g w) (hrc : rm.cells = 1) (hrs : rm.slots = 6) (hR : rm.frames + 1 ≤ 20 ∧ 8 + (3 + 11) + rm.locals ≤ 440) (hM : ∀ sz, zXMr l yX4_mend cX4_mend 3 (some .int) rm [.ref (ad 0), .int p0] D cy K ad g sz zIOB (fun g1 => cT cy K ad g1 C2 ∧ zFr zCl g g1)) : wM l yL_mend cL_mend 4 [(0, 9, 12, 13)] [.ref (ad 0), .int p0, .ref (ad 230)] D cy K ad g sz 1 v C2 := by
  refine z_metW (by decide) (Nat.le_of_ble_eq_true rfl) (fun p e s m below meth c ls hsz hl C0 htab hTh hN hr hP hS => ?_)
  subst hsz
  have hl : lv_has ls 4 [(0, .ref (ad 0)), (1, .int p0), (2, .ref (ad 230))] := hl
  have hx := C0.1; have hb := C0.2.1; have hts := C0.2.2.2.2.1
  obtain ⟨hO1, f, hO2, hO3⟩ := hO
  obtain ⟨fs, hfs⟩ := hT.rc
  refine lv_aload_n hx hb dL_mend_0 rfl (lv_at hl 2 rfl) ?_
  refine lv_iconst (v := 0) hx hb dL_mend_1 (by decide) ?_
  refine lv_aload_n hx hb dL_mend_2 rfl (lv_at hl 0 rfl) ?_
  refine lv_iload_n hx hb dL_mend_3 rfl (lv_at hl 1 rfl) ?_
  refine z_thrownr C0 hP hS (z_runVXr (As := [.int p0]) (rest := [.int 0, .ref (ad 230)]) C0 hTh hP hS hl.1 (hM _) lk_L_23 hT.n0 hfs rfl rfl (Nat.le_of_ble_eq_true rfl) hrc hrs hR ⟨Nat.le_of_ble_eq_true rfl, Nat.le_of_ble_eq_true rfl⟩ dL_mend_4) (fun g1 ce q9 H locs hp hP hS hce hcv hcl => ?_)
  obtain ⟨hT2, hF⟩ := hp
  refine vx_catch (own := RL) (name := zIOB) (E := zIOB) C0.2.2.2.1 [] ⟨0, 9, 12, 13⟩ [] htab (fun z hz => absurd hz List.not_mem_nil) (by decide) (by decide) (hts _ q565) ((hTh.2.2.1 zIOB (by simp [zEs])).use rfl) hce hcv hcl ?_
  refine lv_astore_n (lv' := [(3, .ref q9), (0, .ref (ad 0)), (1, .int p0), (2, .ref (ad 230))]) hx hb dL_mend_12 rfl hl (by decide) rfl (fun ls hl => ?_)
  refine lv_iconst (v := 1) hx hb dL_mend_13 (by decide) ?_
  exact z_iret C0 hP hS hr ⟨rfl, hT2, ⟨_, ⟨hO1, f, (hF 230 (by unfold zCl; omega)).trans hO2, hO3⟩, fun h => absurd h (by decide)⟩, hF.mono (fun z h => Or.inl h)⟩ dL_mend_14
theorem lh_renew : zLh RL 102 yL_renew cL_renew 4 (some .int) [(0, 9, 12, 13)] 3 := zLh.of q631 q632 q51 q633 (by decide +kernel)
set_option maxHeartbeats 1000000 in
theorem wok_renew (l : Launch) {D : va_G} {cy : Nat → ClassId} {K : Nat} {ad : Nat → Nat} {g : Nat → va_E} (sz : Nat) {p0 : Int32} {rm : Room} {v : Int32} {w : Int64} {C C2 : zCR} (hT : cT cy K ad g C) (hO : oV cy K g w) (hrc : rm.cells = 0) (hrs : rm.slots = 0) (hR : rm.frames + 1 ≤ 20 ∧ 8 + (3 + 11) + rm.locals ≤ 440) (hM : ∀ sz, Met l yX4_renew (zs yX4_renew cX4_renew 3 (some .int)) rm (va_Pc [.ref (ad 0), .int p0] (zIn D cy K ad g sz)) (va_Qi (fun r g1 => r = v ∧ cT cy K ad g1 C2 ∧ zFr zCl g g1) (zOut D cy K ad sz) (zA K ad sz)) 0 0 (zA K ad sz)) : wM l yL_renew cL_renew 4 [(0, 9, 12, 13)] [.ref (ad 0), .int p0, .ref (ad 230)] D cy K ad g sz 0 v C2 := by
  refine z_metW (by decide) (Nat.le_of_ble_eq_true rfl) (fun p e s m below meth c ls hsz hl C0 htab hTh hN hr hP hS => ?_)
  subst hsz
  have hl : lv_has ls 4 [(0, .ref (ad 0)), (1, .int p0), (2, .ref (ad 230))] := hl
  have hx := C0.1; have hb := C0.2.1; have hts := C0.2.2.2.2.1
  obtain ⟨hO1, f, hO2, hO3⟩ := hO
  obtain ⟨fs, hfs⟩ := hT.rc
  refine W.widen (k := 1) (n := 6) (Nat.zero_le _) (Nat.zero_le _) ?_
  refine lv_aload_n hx hb dL_renew_0 rfl (lv_at hl 2 rfl) ?_
  refine lv_iconst (v := 0) hx hb dL_renew_1 (by decide) ?_
  refine lv_aload_n hx hb dL_renew_2 rfl (lv_at hl 0 rfl) ?_
  refine lv_iload_n hx hb dL_renew_3 rfl (lv_at hl 1 rfl) ?_
  refine z_Vi_mo (As := [.int p0]) (rest := [.int 0, .ref (ad 230)]) C0 hP hS hl.1 (hM _) lk_L_27 hT.n0 hfs rfl rfl (Nat.le_of_ble_eq_true rfl) hR hrc hrs ⟨Nat.le_of_ble_eq_true rfl, Nat.le_of_ble_eq_true rfl⟩ dL_renew_4 (fun r g1 H locs hP hS hp => ?_)
  obtain ⟨hr1, hT2, hF⟩ := hp
  subst hr1
  have hO3 := (hF 230 (by unfold zCl; omega)).trans hO2
  refine lv_i2l (v := r.toInt64) hx hb dL_renew_7 rfl ?_
  refine z_last C0 hP hS hO1 hO3 (zIx_of nI_0.symm (by decide) (by decide)) dL_renew_8 (fun H locs hP hS => ?_)
  refine lv_goto (tgt := 15) hx hb dL_renew_9 (by decide) ?_
  refine lv_iconst (v := 0) hx hb dL_renew_15 (by decide) ?_
  exact z_iret C0 hP hS hr ⟨rfl, hT2.kept (P := fun z => z = 230) (zFr.up zFr.rf rfl) (fun z h q => by subst q; unfold zCl at h; omega), ⟨_, ⟨hO1, _, va_up_self _ _ _, if_pos rfl⟩, fun _ => rfl⟩, (hF.mono (fun z h => Or.inl h)).up (Or.inr rfl)⟩ dL_renew_16
set_option maxHeartbeats 1000000 in
theorem wx1_renew (l : Launch) {D : va_G} {cy : Nat → ClassId} {K : Nat} {ad : Nat → Nat} {g : Nat → va_E} (sz : Nat) {p0 : Int32} {rm : Room} {v : Int32} {w : Int64} {C C2 : zCR} (hT : cT cy K ad g C) (hO : oV cy K g w) (hrc : rm.cells = 1) (hrs : rm.slots = 6) (hR : rm.frames + 1 ≤ 20 ∧ 8 + (3 + 11) + rm.locals ≤ 440) (hM : ∀ sz, zXMr l yX4_renew cX4_renew 3 (some .int) rm [.ref (ad 0), .int p0] D cy K ad g sz zIOB (fun g1 => cT cy K ad g1 C2 ∧ zFr zCl g g1)) : wM l yL_renew cL_renew 4 [(0, 9, 12, 13)] [.ref (ad 0), .int p0, .ref (ad 230)] D cy K ad g sz 1 v C2 := by
  refine z_metW (by decide) (Nat.le_of_ble_eq_true rfl) (fun p e s m below meth c ls hsz hl C0 htab hTh hN hr hP hS => ?_)
  subst hsz
  have hl : lv_has ls 4 [(0, .ref (ad 0)), (1, .int p0), (2, .ref (ad 230))] := hl
  have hx := C0.1; have hb := C0.2.1; have hts := C0.2.2.2.2.1
  obtain ⟨hO1, f, hO2, hO3⟩ := hO
  obtain ⟨fs, hfs⟩ := hT.rc
  refine lv_aload_n hx hb dL_renew_0 rfl (lv_at hl 2 rfl) ?_
  refine lv_iconst (v := 0) hx hb dL_renew_1 (by decide) ?_
  refine lv_aload_n hx hb dL_renew_2 rfl (lv_at hl 0 rfl) ?_
  refine lv_iload_n hx hb dL_renew_3 rfl (lv_at hl 1 rfl) ?_
  refine z_thrownr C0 hP hS (z_runVXr (As := [.int p0]) (rest := [.int 0, .ref (ad 230)]) C0 hTh hP hS hl.1 (hM _) lk_L_27 hT.n0 hfs rfl rfl (Nat.le_of_ble_eq_true rfl) hrc hrs hR ⟨Nat.le_of_ble_eq_true rfl, Nat.le_of_ble_eq_true rfl⟩ dL_renew_4) (fun g1 ce q9 H locs hp hP hS hce hcv hcl => ?_)
  obtain ⟨hT2, hF⟩ := hp
  refine vx_catch (own := RL) (name := zIOB) (E := zIOB) C0.2.2.2.1 [] ⟨0, 9, 12, 13⟩ [] htab (fun z hz => absurd hz List.not_mem_nil) (by decide) (by decide) (hts _ q565) ((hTh.2.2.1 zIOB (by simp [zEs])).use rfl) hce hcv hcl ?_
  refine lv_astore_n (lv' := [(3, .ref q9), (0, .ref (ad 0)), (1, .int p0), (2, .ref (ad 230))]) hx hb dL_renew_12 rfl hl (by decide) rfl (fun ls hl => ?_)
  refine lv_iconst (v := 1) hx hb dL_renew_13 (by decide) ?_
  exact z_iret C0 hP hS hr ⟨rfl, hT2, ⟨_, ⟨hO1, f, (hF 230 (by unfold zCl; omega)).trans hO2, hO3⟩, fun h => absurd h (by decide)⟩, hF.mono (fun z h => Or.inl h)⟩ dL_renew_14
theorem lh_dye : zLh RL 105 yL_dye cL_dye 5 (some .int) [(0, 10, 13, 13), (0, 10, 17, 15)] 4 := zLh.of q646 q647 q51 q648 (by decide +kernel)
set_option maxHeartbeats 1000000 in
theorem wok_dye (l : Launch) {D : va_G} {cy : Nat → ClassId} {K : Nat} {ad : Nat → Nat} {g : Nat → va_E} (sz : Nat) {p0 p1 : Int32} {rm : Room} {v : Int32} {w : Int64} {C C2 : zCR} (hT : cT cy K ad g C) (hO : oV cy K g w) (hrc : rm.cells = 0) (hrs : rm.slots = 0) (hR : rm.frames + 1 ≤ 20 ∧ 8 + (5 + 11) + rm.locals ≤ 440) (hM : ∀ sz, Met l yX4_dye (zs yX4_dye cX4_dye 5 (some .int)) rm (va_Pc [.ref (ad 0), .int p0, .int p1] (zIn D cy K ad g sz)) (va_Qi (fun r g1 => r = v ∧ cT cy K ad g1 C2 ∧ zFr zCl g g1) (zOut D cy K ad sz) (zA K ad sz)) 0 0 (zA K ad sz)) : wM l yL_dye cL_dye 5 [(0, 10, 13, 13), (0, 10, 17, 15)] [.ref (ad 0), .int p0, .int p1, .ref (ad 230)] D cy K ad g sz 0 v C2 := by
  refine z_metW (by decide) (Nat.le_of_ble_eq_true rfl) (fun p e s m below meth c ls hsz hl C0 htab hTh hN hr hP hS => ?_)
  subst hsz
  have hl : lv_has ls 5 [(0, .ref (ad 0)), (1, .int p0), (2, .int p1), (3, .ref (ad 230))] := hl
  have hx := C0.1; have hb := C0.2.1; have hts := C0.2.2.2.2.1
  obtain ⟨hO1, f, hO2, hO3⟩ := hO
  obtain ⟨fs, hfs⟩ := hT.rc
  refine W.widen (k := 1) (n := 6) (Nat.zero_le _) (Nat.zero_le _) ?_
  refine lv_aload_n hx hb dL_dye_0 rfl (lv_at hl 3 rfl) ?_
  refine lv_iconst (v := 0) hx hb dL_dye_1 (by decide) ?_
  refine lv_aload_n hx hb dL_dye_2 rfl (lv_at hl 0 rfl) ?_
  refine lv_iload_n hx hb dL_dye_3 rfl (lv_at hl 1 rfl) ?_
  refine lv_iload_n hx hb dL_dye_4 rfl (lv_at hl 2 rfl) ?_
  refine z_Vi_mo (As := [.int p0, .int p1]) (rest := [.int 0, .ref (ad 230)]) C0 hP hS hl.1 (hM _) lk_L_30 hT.n0 hfs rfl rfl (Nat.le_of_ble_eq_true rfl) hR hrc hrs ⟨Nat.le_of_ble_eq_true rfl, Nat.le_of_ble_eq_true rfl⟩ dL_dye_5 (fun r g1 H locs hP hS hp => ?_)
  obtain ⟨hr1, hT2, hF⟩ := hp
  subst hr1
  have hO3 := (hF 230 (by unfold zCl; omega)).trans hO2
  refine lv_i2l (v := r.toInt64) hx hb dL_dye_8 rfl ?_
  refine z_last C0 hP hS hO1 hO3 (zIx_of nI_0.symm (by decide) (by decide)) dL_dye_9 (fun H locs hP hS => ?_)
  refine lv_goto (tgt := 21) hx hb dL_dye_10 (by decide) ?_
  refine lv_iconst (v := 0) hx hb dL_dye_21 (by decide) ?_
  exact z_iret C0 hP hS hr ⟨rfl, hT2.kept (P := fun z => z = 230) (zFr.up zFr.rf rfl) (fun z h q => by subst q; unfold zCl at h; omega), ⟨_, ⟨hO1, _, va_up_self _ _ _, if_pos rfl⟩, fun _ => rfl⟩, (hF.mono (fun z h => Or.inl h)).up (Or.inr rfl)⟩ dL_dye_22
set_option maxHeartbeats 1000000 in
theorem wx1_dye (l : Launch) {D : va_G} {cy : Nat → ClassId} {K : Nat} {ad : Nat → Nat} {g : Nat → va_E} (sz : Nat) {p0 p1 : Int32} {rm : Room} {v : Int32} {w : Int64} {C C2 : zCR} (hT : cT cy K ad g C) (hO : oV cy K g w) (hrc : rm.cells = 1) (hrs : rm.slots = 6) (hR : rm.frames + 1 ≤ 20 ∧ 8 + (5 + 11) + rm.locals ≤ 440) (hM : ∀ sz, zXMr l yX4_dye cX4_dye 5 (some .int) rm [.ref (ad 0), .int p0, .int p1] D cy K ad g sz zIOB (fun g1 => cT cy K ad g1 C2 ∧ zFr zCl g g1)) : wM l yL_dye cL_dye 5 [(0, 10, 13, 13), (0, 10, 17, 15)] [.ref (ad 0), .int p0, .int p1, .ref (ad 230)] D cy K ad g sz 1 v C2 := by
  refine z_metW (by decide) (Nat.le_of_ble_eq_true rfl) (fun p e s m below meth c ls hsz hl C0 htab hTh hN hr hP hS => ?_)
  subst hsz
  have hl : lv_has ls 5 [(0, .ref (ad 0)), (1, .int p0), (2, .int p1), (3, .ref (ad 230))] := hl
  have hx := C0.1; have hb := C0.2.1; have hts := C0.2.2.2.2.1
  obtain ⟨hO1, f, hO2, hO3⟩ := hO
  obtain ⟨fs, hfs⟩ := hT.rc
  refine lv_aload_n hx hb dL_dye_0 rfl (lv_at hl 3 rfl) ?_
  refine lv_iconst (v := 0) hx hb dL_dye_1 (by decide) ?_
  refine lv_aload_n hx hb dL_dye_2 rfl (lv_at hl 0 rfl) ?_
  refine lv_iload_n hx hb dL_dye_3 rfl (lv_at hl 1 rfl) ?_
  refine lv_iload_n hx hb dL_dye_4 rfl (lv_at hl 2 rfl) ?_
  refine z_thrownr C0 hP hS (z_runVXr (As := [.int p0, .int p1]) (rest := [.int 0, .ref (ad 230)]) C0 hTh hP hS hl.1 (hM _) lk_L_30 hT.n0 hfs rfl rfl (Nat.le_of_ble_eq_true rfl) hrc hrs hR ⟨Nat.le_of_ble_eq_true rfl, Nat.le_of_ble_eq_true rfl⟩ dL_dye_5) (fun g1 ce q9 H locs hp hP hS hce hcv hcl => ?_)
  obtain ⟨hT2, hF⟩ := hp
  refine vx_catch (own := RL) (name := zIOB) (E := zIOB) C0.2.2.2.1 [] ⟨0, 10, 13, 13⟩ [⟨0, 10, 17, 15⟩] htab (fun z hz => absurd hz List.not_mem_nil) (by decide) (by decide) (hts _ q565) ((hTh.2.2.1 zIOB (by simp [zEs])).use rfl) hce hcv hcl ?_
  refine lv_astore (lv' := [(4, .ref q9), (0, .ref (ad 0)), (1, .int p0), (2, .int p1), (3, .ref (ad 230))]) hx hb dL_dye_13 hl (by decide) rfl (fun ls hl => ?_)
  refine lv_iconst (v := 1) hx hb dL_dye_15 (by decide) ?_
  exact z_iret C0 hP hS hr ⟨rfl, hT2, ⟨_, ⟨hO1, f, (hF 230 (by unfold zCl; omega)).trans hO2, hO3⟩, fun h => absurd h (by decide)⟩, hF.mono (fun z h => Or.inl h)⟩ dL_dye_16
set_option maxHeartbeats 1000000 in
theorem wx2_dye (l : Launch) {D : va_G} {cy : Nat → ClassId} {K : Nat} {ad : Nat → Nat} {g : Nat → va_E} (sz : Nat) {p0 p1 : Int32} {rm : Room} {v : Int32} {w : Int64} {C C2 : zCR} (hT : cT cy K ad g C) (hO : oV cy K g w) (hrc : rm.cells = 1) (hrs : rm.slots = 6) (hR : rm.frames + 1 ≤ 20 ∧ 8 + (5 + 11) + rm.locals ≤ 440) (hM : ∀ sz, zXMr l yX4_dye cX4_dye 5 (some .int) rm [.ref (ad 0), .int p0, .int p1] D cy K ad g sz zIAE (fun g1 => cT cy K ad g1 C2 ∧ zFr zCl g g1)) : wM l yL_dye cL_dye 5 [(0, 10, 13, 13), (0, 10, 17, 15)] [.ref (ad 0), .int p0, .int p1, .ref (ad 230)] D cy K ad g sz 2 v C2 := by
  refine z_metW (by decide) (Nat.le_of_ble_eq_true rfl) (fun p e s m below meth c ls hsz hl C0 htab hTh hN hr hP hS => ?_)
  subst hsz
  have hl : lv_has ls 5 [(0, .ref (ad 0)), (1, .int p0), (2, .int p1), (3, .ref (ad 230))] := hl
  have hx := C0.1; have hb := C0.2.1; have hts := C0.2.2.2.2.1
  obtain ⟨hO1, f, hO2, hO3⟩ := hO
  obtain ⟨fs, hfs⟩ := hT.rc
  refine lv_aload_n hx hb dL_dye_0 rfl (lv_at hl 3 rfl) ?_
  refine lv_iconst (v := 0) hx hb dL_dye_1 (by decide) ?_
  refine lv_aload_n hx hb dL_dye_2 rfl (lv_at hl 0 rfl) ?_
  refine lv_iload_n hx hb dL_dye_3 rfl (lv_at hl 1 rfl) ?_
  refine lv_iload_n hx hb dL_dye_4 rfl (lv_at hl 2 rfl) ?_
  refine z_thrownr C0 hP hS (z_runVXr (As := [.int p0, .int p1]) (rest := [.int 0, .ref (ad 230)]) C0 hTh hP hS hl.1 (hM _) lk_L_30 hT.n0 hfs rfl rfl (Nat.le_of_ble_eq_true rfl) hrc hrs hR ⟨Nat.le_of_ble_eq_true rfl, Nat.le_of_ble_eq_true rfl⟩ dL_dye_5) (fun g1 ce q9 H locs hp hP hS hce hcv hcl => ?_)
  obtain ⟨hT2, hF⟩ := hp
  refine vx_catch (own := RL) (name := zIAE) (E := zIAE) C0.2.2.2.1 [⟨0, 10, 13, 13⟩] ⟨0, 10, 17, 15⟩ [] htab (fun z hz => by rw [List.mem_singleton.mp hz]; exact Or.inr ⟨by decide, zIOB, hts _ q565, hN.1⟩) (by decide) (by decide) (hts _ q566) ((hTh.2.2.1 zIAE (by simp [zEs])).use rfl) hce hcv hcl ?_
  refine lv_astore (lv' := [(4, .ref q9), (0, .ref (ad 0)), (1, .int p0), (2, .int p1), (3, .ref (ad 230))]) hx hb dL_dye_17 hl (by decide) rfl (fun ls hl => ?_)
  refine lv_iconst (v := 2) hx hb dL_dye_19 (by decide) ?_
  exact z_iret C0 hP hS hr ⟨rfl, hT2, ⟨_, ⟨hO1, f, (hF 230 (by unfold zCl; omega)).trans hO2, hO3⟩, fun h => absurd h (by decide)⟩, hF.mono (fun z h => Or.inl h)⟩ dL_dye_20
theorem lh_set : zLh RL 108 yL_set cL_set 4 (some .int) [(0, 9, 12, 15)] 3 := zLh.of q653 q654 q51 q655 (by decide +kernel)
set_option maxHeartbeats 1000000 in
theorem wok_set (l : Launch) {D : va_G} {cy : Nat → ClassId} {K : Nat} {ad : Nat → Nat} {g : Nat → va_E} (sz : Nat) {p0 : Int32} {rm : Room} {v : Int32} {w : Int64} {C C2 : zCR} (hT : cT cy K ad g C) (hO : oV cy K g w) (hrc : rm.cells = 0) (hrs : rm.slots = 0) (hR : rm.frames + 1 ≤ 20 ∧ 8 + (3 + 11) + rm.locals ≤ 440) (hM : ∀ sz, Met l yX4_set (zs yX4_set cX4_set 3 (some .int)) rm (va_Pc [.ref (ad 0), .int p0] (zIn D cy K ad g sz)) (va_Qi (fun r g1 => r = v ∧ cT cy K ad g1 C2 ∧ zFr zCl g g1) (zOut D cy K ad sz) (zA K ad sz)) 0 0 (zA K ad sz)) : wM l yL_set cL_set 4 [(0, 9, 12, 15)] [.ref (ad 0), .int p0, .ref (ad 230)] D cy K ad g sz 0 v C2 := by
  refine z_metW (by decide) (Nat.le_of_ble_eq_true rfl) (fun p e s m below meth c ls hsz hl C0 htab hTh hN hr hP hS => ?_)
  subst hsz
  have hl : lv_has ls 4 [(0, .ref (ad 0)), (1, .int p0), (2, .ref (ad 230))] := hl
  have hx := C0.1; have hb := C0.2.1; have hts := C0.2.2.2.2.1
  obtain ⟨hO1, f, hO2, hO3⟩ := hO
  obtain ⟨fs, hfs⟩ := hT.rc
  refine W.widen (k := 1) (n := 6) (Nat.zero_le _) (Nat.zero_le _) ?_
  refine lv_aload_n hx hb dL_set_0 rfl (lv_at hl 2 rfl) ?_
  refine lv_iconst (v := 0) hx hb dL_set_1 (by decide) ?_
  refine lv_aload_n hx hb dL_set_2 rfl (lv_at hl 0 rfl) ?_
  refine lv_iload_n hx hb dL_set_3 rfl (lv_at hl 1 rfl) ?_
  refine z_Vi_mo (As := [.int p0]) (rest := [.int 0, .ref (ad 230)]) C0 hP hS hl.1 (hM _) lk_L_33 hT.n0 hfs rfl rfl (Nat.le_of_ble_eq_true rfl) hR hrc hrs ⟨Nat.le_of_ble_eq_true rfl, Nat.le_of_ble_eq_true rfl⟩ dL_set_4 (fun r g1 H locs hP hS hp => ?_)
  obtain ⟨hr1, hT2, hF⟩ := hp
  subst hr1
  have hO3 := (hF 230 (by unfold zCl; omega)).trans hO2
  refine lv_i2l (v := r.toInt64) hx hb dL_set_7 rfl ?_
  refine z_last C0 hP hS hO1 hO3 (zIx_of nI_0.symm (by decide) (by decide)) dL_set_8 (fun H locs hP hS => ?_)
  refine lv_goto (tgt := 15) hx hb dL_set_9 (by decide) ?_
  refine lv_iconst (v := 0) hx hb dL_set_15 (by decide) ?_
  exact z_iret C0 hP hS hr ⟨rfl, hT2.kept (P := fun z => z = 230) (zFr.up zFr.rf rfl) (fun z h q => by subst q; unfold zCl at h; omega), ⟨_, ⟨hO1, _, va_up_self _ _ _, if_pos rfl⟩, fun _ => rfl⟩, (hF.mono (fun z h => Or.inl h)).up (Or.inr rfl)⟩ dL_set_16
set_option maxHeartbeats 1000000 in
theorem wx1_set (l : Launch) {D : va_G} {cy : Nat → ClassId} {K : Nat} {ad : Nat → Nat} {g : Nat → va_E} (sz : Nat) {p0 : Int32} {rm : Room} {v : Int32} {w : Int64} {C C2 : zCR} (hT : cT cy K ad g C) (hO : oV cy K g w) (hrc : rm.cells = 1) (hrs : rm.slots = 6) (hR : rm.frames + 1 ≤ 20 ∧ 8 + (3 + 11) + rm.locals ≤ 440) (hM : ∀ sz, zXMr l yX4_set cX4_set 3 (some .int) rm [.ref (ad 0), .int p0] D cy K ad g sz zIAE (fun g1 => cT cy K ad g1 C2 ∧ zFr zCl g g1)) : wM l yL_set cL_set 4 [(0, 9, 12, 15)] [.ref (ad 0), .int p0, .ref (ad 230)] D cy K ad g sz 1 v C2 := by
  refine z_metW (by decide) (Nat.le_of_ble_eq_true rfl) (fun p e s m below meth c ls hsz hl C0 htab hTh hN hr hP hS => ?_)
  subst hsz
  have hl : lv_has ls 4 [(0, .ref (ad 0)), (1, .int p0), (2, .ref (ad 230))] := hl
  have hx := C0.1; have hb := C0.2.1; have hts := C0.2.2.2.2.1
  obtain ⟨hO1, f, hO2, hO3⟩ := hO
  obtain ⟨fs, hfs⟩ := hT.rc
  refine lv_aload_n hx hb dL_set_0 rfl (lv_at hl 2 rfl) ?_
  refine lv_iconst (v := 0) hx hb dL_set_1 (by decide) ?_
  refine lv_aload_n hx hb dL_set_2 rfl (lv_at hl 0 rfl) ?_
  refine lv_iload_n hx hb dL_set_3 rfl (lv_at hl 1 rfl) ?_
  refine z_thrownr C0 hP hS (z_runVXr (As := [.int p0]) (rest := [.int 0, .ref (ad 230)]) C0 hTh hP hS hl.1 (hM _) lk_L_33 hT.n0 hfs rfl rfl (Nat.le_of_ble_eq_true rfl) hrc hrs hR ⟨Nat.le_of_ble_eq_true rfl, Nat.le_of_ble_eq_true rfl⟩ dL_set_4) (fun g1 ce q9 H locs hp hP hS hce hcv hcl => ?_)
  obtain ⟨hT2, hF⟩ := hp
  refine vx_catch (own := RL) (name := zIAE) (E := zIAE) C0.2.2.2.1 [] ⟨0, 9, 12, 15⟩ [] htab (fun z hz => absurd hz List.not_mem_nil) (by decide) (by decide) (hts _ q566) ((hTh.2.2.1 zIAE (by simp [zEs])).use rfl) hce hcv hcl ?_
  refine lv_astore_n (lv' := [(3, .ref q9), (0, .ref (ad 0)), (1, .int p0), (2, .ref (ad 230))]) hx hb dL_set_12 rfl hl (by decide) rfl (fun ls hl => ?_)
  refine lv_iconst (v := 1) hx hb dL_set_13 (by decide) ?_
  exact z_iret C0 hP hS hr ⟨rfl, hT2, ⟨_, ⟨hO1, f, (hF 230 (by unfold zCl; omega)).trans hO2, hO3⟩, fun h => absurd h (by decide)⟩, hF.mono (fun z h => Or.inl h)⟩ dL_set_14
theorem lh_append : zLh RL 111 yL_append cL_append 4 (some .int) [(0, 9, 12, 15), (0, 9, 15, 39)] 3 := zLh.of q661 q662 q51 q663 (by decide +kernel)
set_option maxHeartbeats 1000000 in
theorem wok_append (l : Launch) {D : va_G} {cy : Nat → ClassId} {K : Nat} {ad : Nat → Nat} {g : Nat → va_E} (sz : Nat) {p0 : Int32} {rm : Room} {v : Int32} {w : Int64} {C C2 : zCR} (hT : cT cy K ad g C) (hO : oV cy K g w) (hrc : rm.cells = 0) (hrs : rm.slots = 0) (hR : rm.frames + 1 ≤ 20 ∧ 8 + (2 + 11) + rm.locals ≤ 440) (hM : ∀ sz, Met l yX4_append (zs yX4_append cX4_append 2 (some .int)) rm (va_Pc [.ref (ad 0), .int p0] (zIn D cy K ad g sz)) (va_Qi (fun r g1 => r = v ∧ cT cy K ad g1 C2 ∧ zFr zCl g g1) (zOut D cy K ad sz) (zA K ad sz)) 0 0 (zA K ad sz)) : wM l yL_append cL_append 4 [(0, 9, 12, 15), (0, 9, 15, 39)] [.ref (ad 0), .int p0, .ref (ad 230)] D cy K ad g sz 0 v C2 := by
  refine z_metW (by decide) (Nat.le_of_ble_eq_true rfl) (fun p e s m below meth c ls hsz hl C0 htab hTh hN hr hP hS => ?_)
  subst hsz
  have hl : lv_has ls 4 [(0, .ref (ad 0)), (1, .int p0), (2, .ref (ad 230))] := hl
  have hx := C0.1; have hb := C0.2.1; have hts := C0.2.2.2.2.1
  obtain ⟨hO1, f, hO2, hO3⟩ := hO
  obtain ⟨fs, hfs⟩ := hT.rc
  refine W.widen (k := 1) (n := 6) (Nat.zero_le _) (Nat.zero_le _) ?_
  refine lv_aload_n hx hb dL_append_0 rfl (lv_at hl 2 rfl) ?_
  refine lv_iconst (v := 0) hx hb dL_append_1 (by decide) ?_
  refine lv_aload_n hx hb dL_append_2 rfl (lv_at hl 0 rfl) ?_
  refine lv_iload_n hx hb dL_append_3 rfl (lv_at hl 1 rfl) ?_
  refine z_Vi_mo (As := [.int p0]) (rest := [.int 0, .ref (ad 230)]) C0 hP hS hl.1 (hM _) lk_L_36 hT.n0 hfs rfl rfl (Nat.le_of_ble_eq_true rfl) hR hrc hrs ⟨Nat.le_of_ble_eq_true rfl, Nat.le_of_ble_eq_true rfl⟩ dL_append_4 (fun r g1 H locs hP hS hp => ?_)
  obtain ⟨hr1, hT2, hF⟩ := hp
  subst hr1
  have hO3 := (hF 230 (by unfold zCl; omega)).trans hO2
  refine lv_i2l (v := r.toInt64) hx hb dL_append_7 rfl ?_
  refine z_last C0 hP hS hO1 hO3 (zIx_of nI_0.symm (by decide) (by decide)) dL_append_8 (fun H locs hP hS => ?_)
  refine lv_goto (tgt := 18) hx hb dL_append_9 (by decide) ?_
  refine lv_iconst (v := 0) hx hb dL_append_18 (by decide) ?_
  exact z_iret C0 hP hS hr ⟨rfl, hT2.kept (P := fun z => z = 230) (zFr.up zFr.rf rfl) (fun z h q => by subst q; unfold zCl at h; omega), ⟨_, ⟨hO1, _, va_up_self _ _ _, if_pos rfl⟩, fun _ => rfl⟩, (hF.mono (fun z h => Or.inl h)).up (Or.inr rfl)⟩ dL_append_19
set_option maxHeartbeats 1000000 in
theorem wx1_append (l : Launch) {D : va_G} {cy : Nat → ClassId} {K : Nat} {ad : Nat → Nat} {g : Nat → va_E} (sz : Nat) {p0 : Int32} {rm : Room} {v : Int32} {w : Int64} {C C2 : zCR} (hT : cT cy K ad g C) (hO : oV cy K g w) (hrc : rm.cells = 1) (hrs : rm.slots = 6) (hR : rm.frames + 1 ≤ 20 ∧ 8 + (2 + 11) + rm.locals ≤ 440) (hM : ∀ sz, zXMr l yX4_append cX4_append 2 (some .int) rm [.ref (ad 0), .int p0] D cy K ad g sz zIAE (fun g1 => cT cy K ad g1 C2 ∧ zFr zCl g g1)) : wM l yL_append cL_append 4 [(0, 9, 12, 15), (0, 9, 15, 39)] [.ref (ad 0), .int p0, .ref (ad 230)] D cy K ad g sz 1 v C2 := by
  refine z_metW (by decide) (Nat.le_of_ble_eq_true rfl) (fun p e s m below meth c ls hsz hl C0 htab hTh hN hr hP hS => ?_)
  subst hsz
  have hl : lv_has ls 4 [(0, .ref (ad 0)), (1, .int p0), (2, .ref (ad 230))] := hl
  have hx := C0.1; have hb := C0.2.1; have hts := C0.2.2.2.2.1
  obtain ⟨hO1, f, hO2, hO3⟩ := hO
  obtain ⟨fs, hfs⟩ := hT.rc
  refine lv_aload_n hx hb dL_append_0 rfl (lv_at hl 2 rfl) ?_
  refine lv_iconst (v := 0) hx hb dL_append_1 (by decide) ?_
  refine lv_aload_n hx hb dL_append_2 rfl (lv_at hl 0 rfl) ?_
  refine lv_iload_n hx hb dL_append_3 rfl (lv_at hl 1 rfl) ?_
  refine z_thrownr C0 hP hS (z_runVXr (As := [.int p0]) (rest := [.int 0, .ref (ad 230)]) C0 hTh hP hS hl.1 (hM _) lk_L_36 hT.n0 hfs rfl rfl (Nat.le_of_ble_eq_true rfl) hrc hrs hR ⟨Nat.le_of_ble_eq_true rfl, Nat.le_of_ble_eq_true rfl⟩ dL_append_4) (fun g1 ce q9 H locs hp hP hS hce hcv hcl => ?_)
  obtain ⟨hT2, hF⟩ := hp
  refine vx_catch (own := RL) (name := zIAE) (E := zIAE) C0.2.2.2.1 [] ⟨0, 9, 12, 15⟩ [⟨0, 9, 15, 39⟩] htab (fun z hz => absurd hz List.not_mem_nil) (by decide) (by decide) (hts _ q566) ((hTh.2.2.1 zIAE (by simp [zEs])).use rfl) hce hcv hcl ?_
  refine lv_astore_n (lv' := [(3, .ref q9), (0, .ref (ad 0)), (1, .int p0), (2, .ref (ad 230))]) hx hb dL_append_12 rfl hl (by decide) rfl (fun ls hl => ?_)
  refine lv_iconst (v := 1) hx hb dL_append_13 (by decide) ?_
  exact z_iret C0 hP hS hr ⟨rfl, hT2, ⟨_, ⟨hO1, f, (hF 230 (by unfold zCl; omega)).trans hO2, hO3⟩, fun h => absurd h (by decide)⟩, hF.mono (fun z h => Or.inl h)⟩ dL_append_14
set_option maxHeartbeats 1000000 in
theorem wx2_append (l : Launch) {D : va_G} {cy : Nat → ClassId} {K : Nat} {ad : Nat → Nat} {g : Nat → va_E} (sz : Nat) {p0 : Int32} {rm : Room} {v : Int32} {w : Int64} {C C2 : zCR} (hT : cT cy K ad g C) (hO : oV cy K g w) (hrc : rm.cells = 1) (hrs : rm.slots = 6) (hR : rm.frames + 1 ≤ 20 ∧ 8 + (2 + 11) + rm.locals ≤ 440) (hM : ∀ sz, zXMr l yX4_append cX4_append 2 (some .int) rm [.ref (ad 0), .int p0] D cy K ad g sz zISE (fun g1 => cT cy K ad g1 C2 ∧ zFr zCl g g1)) : wM l yL_append cL_append 4 [(0, 9, 12, 15), (0, 9, 15, 39)] [.ref (ad 0), .int p0, .ref (ad 230)] D cy K ad g sz 2 v C2 := by
  refine z_metW (by decide) (Nat.le_of_ble_eq_true rfl) (fun p e s m below meth c ls hsz hl C0 htab hTh hN hr hP hS => ?_)
  subst hsz
  have hl : lv_has ls 4 [(0, .ref (ad 0)), (1, .int p0), (2, .ref (ad 230))] := hl
  have hx := C0.1; have hb := C0.2.1; have hts := C0.2.2.2.2.1
  obtain ⟨hO1, f, hO2, hO3⟩ := hO
  obtain ⟨fs, hfs⟩ := hT.rc
  refine lv_aload_n hx hb dL_append_0 rfl (lv_at hl 2 rfl) ?_
  refine lv_iconst (v := 0) hx hb dL_append_1 (by decide) ?_
  refine lv_aload_n hx hb dL_append_2 rfl (lv_at hl 0 rfl) ?_
  refine lv_iload_n hx hb dL_append_3 rfl (lv_at hl 1 rfl) ?_
  refine z_thrownr C0 hP hS (z_runVXr (As := [.int p0]) (rest := [.int 0, .ref (ad 230)]) C0 hTh hP hS hl.1 (hM _) lk_L_36 hT.n0 hfs rfl rfl (Nat.le_of_ble_eq_true rfl) hrc hrs hR ⟨Nat.le_of_ble_eq_true rfl, Nat.le_of_ble_eq_true rfl⟩ dL_append_4) (fun g1 ce q9 H locs hp hP hS hce hcv hcl => ?_)
  obtain ⟨hT2, hF⟩ := hp
  refine vx_catch (own := RL) (name := zISE) (E := zISE) C0.2.2.2.1 [⟨0, 9, 12, 15⟩] ⟨0, 9, 15, 39⟩ [] htab (fun z hz => by rw [List.mem_singleton.mp hz]; exact Or.inr ⟨by decide, zIAE, hts _ q566, hN.2⟩) (by decide) (by decide) (hts _ q664) ((hTh.2.2.1 zISE (by simp [zEs])).use rfl) hce hcv hcl ?_
  refine lv_astore_n (lv' := [(3, .ref q9), (0, .ref (ad 0)), (1, .int p0), (2, .ref (ad 230))]) hx hb dL_append_15 rfl hl (by decide) rfl (fun ls hl => ?_)
  refine lv_iconst (v := 2) hx hb dL_append_16 (by decide) ?_
  exact z_iret C0 hP hS hr ⟨rfl, hT2, ⟨_, ⟨hO1, f, (hF 230 (by unfold zCl; omega)).trans hO2, hO3⟩, fun h => absurd h (by decide)⟩, hF.mono (fun z h => Or.inl h)⟩ dL_append_17
theorem lh_run : zLh RL 122 yL_run cL_run 3 (some .int) [(0, 8, 11, 15)] 2 := zLh.of q686 q687 q51 q688 (by decide +kernel)
set_option maxHeartbeats 1000000 in
theorem wok_run (l : Launch) {D : va_G} {cy : Nat → ClassId} {K : Nat} {ad : Nat → Nat} {g : Nat → va_E} (sz : Nat) {rm : Room} {v : Int32} {w : Int64} {C C2 : zCR} (hT : cT cy K ad g C) (hO : oV cy K g w) (hrc : rm.cells = 0) (hrs : rm.slots = 0) (hR : rm.frames + 1 ≤ 20 ∧ 8 + (4 + 11) + rm.locals ≤ 440) (hM : ∀ sz, Met l yX4_run (zs yX4_run cX4_run 4 (some .int)) rm (va_Pc [.ref (ad 0)] (zIn D cy K ad g sz)) (va_Qi (fun r g1 => r = v ∧ cT cy K ad g1 C2 ∧ zFr zCl g g1) (zOut D cy K ad sz) (zA K ad sz)) 0 0 (zA K ad sz)) : wM l yL_run cL_run 3 [(0, 8, 11, 15)] [.ref (ad 0), .ref (ad 230)] D cy K ad g sz 0 v C2 := by
  refine z_metW (by decide) (Nat.le_of_ble_eq_true rfl) (fun p e s m below meth c ls hsz hl C0 htab hTh hN hr hP hS => ?_)
  subst hsz
  have hl : lv_has ls 3 [(0, .ref (ad 0)), (1, .ref (ad 230))] := hl
  have hx := C0.1; have hb := C0.2.1; have hts := C0.2.2.2.2.1
  obtain ⟨hO1, f, hO2, hO3⟩ := hO
  obtain ⟨fs, hfs⟩ := hT.rc
  refine W.widen (k := 1) (n := 6) (Nat.zero_le _) (Nat.zero_le _) ?_
  refine lv_aload_n hx hb dL_run_0 rfl (lv_at hl 1 rfl) ?_
  refine lv_iconst (v := 0) hx hb dL_run_1 (by decide) ?_
  refine lv_aload_n hx hb dL_run_2 rfl (lv_at hl 0 rfl) ?_
  refine z_Vi_mo (As := []) (rest := [.int 0, .ref (ad 230)]) C0 hP hS hl.1 (hM _) lk_L_41 hT.n0 hfs rfl rfl (Nat.le_of_ble_eq_true rfl) hR hrc hrs ⟨Nat.le_of_ble_eq_true rfl, Nat.le_of_ble_eq_true rfl⟩ dL_run_3 (fun r g1 H locs hP hS hp => ?_)
  obtain ⟨hr1, hT2, hF⟩ := hp
  subst hr1
  have hO3 := (hF 230 (by unfold zCl; omega)).trans hO2
  refine lv_i2l (v := r.toInt64) hx hb dL_run_6 rfl ?_
  refine z_last C0 hP hS hO1 hO3 (zIx_of nI_0.symm (by decide) (by decide)) dL_run_7 (fun H locs hP hS => ?_)
  refine lv_goto (tgt := 14) hx hb dL_run_8 (by decide) ?_
  refine lv_iconst (v := 0) hx hb dL_run_14 (by decide) ?_
  exact z_iret C0 hP hS hr ⟨rfl, hT2.kept (P := fun z => z = 230) (zFr.up zFr.rf rfl) (fun z h q => by subst q; unfold zCl at h; omega), ⟨_, ⟨hO1, _, va_up_self _ _ _, if_pos rfl⟩, fun _ => rfl⟩, (hF.mono (fun z h => Or.inl h)).up (Or.inr rfl)⟩ dL_run_15
set_option maxHeartbeats 1000000 in
theorem wx1_run (l : Launch) {D : va_G} {cy : Nat → ClassId} {K : Nat} {ad : Nat → Nat} {g : Nat → va_E} (sz : Nat) {rm : Room} {v : Int32} {w : Int64} {C C2 : zCR} (hT : cT cy K ad g C) (hO : oV cy K g w) (hrc : rm.cells = 1) (hrs : rm.slots = 6) (hR : rm.frames + 1 ≤ 20 ∧ 8 + (4 + 11) + rm.locals ≤ 440) (hM : ∀ sz, zXMr l yX4_run cX4_run 4 (some .int) rm [.ref (ad 0)] D cy K ad g sz zIAE (fun g1 => cT cy K ad g1 C2 ∧ zFr zCl g g1)) : wM l yL_run cL_run 3 [(0, 8, 11, 15)] [.ref (ad 0), .ref (ad 230)] D cy K ad g sz 1 v C2 := by
  refine z_metW (by decide) (Nat.le_of_ble_eq_true rfl) (fun p e s m below meth c ls hsz hl C0 htab hTh hN hr hP hS => ?_)
  subst hsz
  have hl : lv_has ls 3 [(0, .ref (ad 0)), (1, .ref (ad 230))] := hl
  have hx := C0.1; have hb := C0.2.1; have hts := C0.2.2.2.2.1
  obtain ⟨hO1, f, hO2, hO3⟩ := hO
  obtain ⟨fs, hfs⟩ := hT.rc
  refine lv_aload_n hx hb dL_run_0 rfl (lv_at hl 1 rfl) ?_
  refine lv_iconst (v := 0) hx hb dL_run_1 (by decide) ?_
  refine lv_aload_n hx hb dL_run_2 rfl (lv_at hl 0 rfl) ?_
  refine z_thrownr C0 hP hS (z_runVXr (As := []) (rest := [.int 0, .ref (ad 230)]) C0 hTh hP hS hl.1 (hM _) lk_L_41 hT.n0 hfs rfl rfl (Nat.le_of_ble_eq_true rfl) hrc hrs hR ⟨Nat.le_of_ble_eq_true rfl, Nat.le_of_ble_eq_true rfl⟩ dL_run_3) (fun g1 ce q9 H locs hp hP hS hce hcv hcl => ?_)
  obtain ⟨hT2, hF⟩ := hp
  refine vx_catch (own := RL) (name := zIAE) (E := zIAE) C0.2.2.2.1 [] ⟨0, 8, 11, 15⟩ [] htab (fun z hz => absurd hz List.not_mem_nil) (by decide) (by decide) (hts _ q566) ((hTh.2.2.1 zIAE (by simp [zEs])).use rfl) hce hcv hcl ?_
  refine lv_astore_n (lv' := [(2, .ref q9), (0, .ref (ad 0)), (1, .ref (ad 230))]) hx hb dL_run_11 rfl hl (by decide) rfl (fun ls hl => ?_)
  refine lv_iconst (v := 1) hx hb dL_run_12 (by decide) ?_
  exact z_iret C0 hP hS hr ⟨rfl, hT2, ⟨_, ⟨hO1, f, (hF 230 (by unfold zCl; omega)).trans hO2, hO3⟩, fun h => absurd h (by decide)⟩, hF.mono (fun z h => Or.inl h)⟩ dL_run_13
theorem lh_keep : zLh RL 126 yL_keep cL_keep 4 (some .int) [(0, 9, 12, 15)] 3 := zLh.of q702 q703 q51 q704 (by decide +kernel)
set_option maxHeartbeats 1000000 in
theorem wok_keep (l : Launch) {D : va_G} {cy : Nat → ClassId} {K : Nat} {ad : Nat → Nat} {g : Nat → va_E} (sz : Nat) {p0 : Int32} {rm : Room} {v : Int32} {w : Int64} {C C2 : zCR} (hT : cT cy K ad g C) (hO : oV cy K g w) (hrc : rm.cells = 0) (hrs : rm.slots = 0) (hR : rm.frames + 1 ≤ 20 ∧ 8 + (3 + 11) + rm.locals ≤ 440) (hM : ∀ sz, Met l yX4_keep (zs yX4_keep cX4_keep 3 (some .int)) rm (va_Pc [.ref (ad 0), .int p0] (zIn D cy K ad g sz)) (va_Qi (fun r g1 => r = v ∧ cT cy K ad g1 C2 ∧ zFr zCl g g1) (zOut D cy K ad sz) (zA K ad sz)) 0 0 (zA K ad sz)) : wM l yL_keep cL_keep 4 [(0, 9, 12, 15)] [.ref (ad 0), .int p0, .ref (ad 230)] D cy K ad g sz 0 v C2 := by
  refine z_metW (by decide) (Nat.le_of_ble_eq_true rfl) (fun p e s m below meth c ls hsz hl C0 htab hTh hN hr hP hS => ?_)
  subst hsz
  have hl : lv_has ls 4 [(0, .ref (ad 0)), (1, .int p0), (2, .ref (ad 230))] := hl
  have hx := C0.1; have hb := C0.2.1; have hts := C0.2.2.2.2.1
  obtain ⟨hO1, f, hO2, hO3⟩ := hO
  obtain ⟨fs, hfs⟩ := hT.rc
  refine W.widen (k := 1) (n := 6) (Nat.zero_le _) (Nat.zero_le _) ?_
  refine lv_aload_n hx hb dL_keep_0 rfl (lv_at hl 2 rfl) ?_
  refine lv_iconst (v := 0) hx hb dL_keep_1 (by decide) ?_
  refine lv_aload_n hx hb dL_keep_2 rfl (lv_at hl 0 rfl) ?_
  refine lv_iload_n hx hb dL_keep_3 rfl (lv_at hl 1 rfl) ?_
  refine z_Vi_mo (As := [.int p0]) (rest := [.int 0, .ref (ad 230)]) C0 hP hS hl.1 (hM _) lk_L_45 hT.n0 hfs rfl rfl (Nat.le_of_ble_eq_true rfl) hR hrc hrs ⟨Nat.le_of_ble_eq_true rfl, Nat.le_of_ble_eq_true rfl⟩ dL_keep_4 (fun r g1 H locs hP hS hp => ?_)
  obtain ⟨hr1, hT2, hF⟩ := hp
  subst hr1
  have hO3 := (hF 230 (by unfold zCl; omega)).trans hO2
  refine lv_i2l (v := r.toInt64) hx hb dL_keep_7 rfl ?_
  refine z_last C0 hP hS hO1 hO3 (zIx_of nI_0.symm (by decide) (by decide)) dL_keep_8 (fun H locs hP hS => ?_)
  refine lv_goto (tgt := 15) hx hb dL_keep_9 (by decide) ?_
  refine lv_iconst (v := 0) hx hb dL_keep_15 (by decide) ?_
  exact z_iret C0 hP hS hr ⟨rfl, hT2.kept (P := fun z => z = 230) (zFr.up zFr.rf rfl) (fun z h q => by subst q; unfold zCl at h; omega), ⟨_, ⟨hO1, _, va_up_self _ _ _, if_pos rfl⟩, fun _ => rfl⟩, (hF.mono (fun z h => Or.inl h)).up (Or.inr rfl)⟩ dL_keep_16
set_option maxHeartbeats 1000000 in
theorem wx1_keep (l : Launch) {D : va_G} {cy : Nat → ClassId} {K : Nat} {ad : Nat → Nat} {g : Nat → va_E} (sz : Nat) {p0 : Int32} {rm : Room} {v : Int32} {w : Int64} {C C2 : zCR} (hT : cT cy K ad g C) (hO : oV cy K g w) (hrc : rm.cells = 1) (hrs : rm.slots = 6) (hR : rm.frames + 1 ≤ 20 ∧ 8 + (3 + 11) + rm.locals ≤ 440) (hM : ∀ sz, zXMr l yX4_keep cX4_keep 3 (some .int) rm [.ref (ad 0), .int p0] D cy K ad g sz zIAE (fun g1 => cT cy K ad g1 C2 ∧ zFr zCl g g1)) : wM l yL_keep cL_keep 4 [(0, 9, 12, 15)] [.ref (ad 0), .int p0, .ref (ad 230)] D cy K ad g sz 1 v C2 := by
  refine z_metW (by decide) (Nat.le_of_ble_eq_true rfl) (fun p e s m below meth c ls hsz hl C0 htab hTh hN hr hP hS => ?_)
  subst hsz
  have hl : lv_has ls 4 [(0, .ref (ad 0)), (1, .int p0), (2, .ref (ad 230))] := hl
  have hx := C0.1; have hb := C0.2.1; have hts := C0.2.2.2.2.1
  obtain ⟨hO1, f, hO2, hO3⟩ := hO
  obtain ⟨fs, hfs⟩ := hT.rc
  refine lv_aload_n hx hb dL_keep_0 rfl (lv_at hl 2 rfl) ?_
  refine lv_iconst (v := 0) hx hb dL_keep_1 (by decide) ?_
  refine lv_aload_n hx hb dL_keep_2 rfl (lv_at hl 0 rfl) ?_
  refine lv_iload_n hx hb dL_keep_3 rfl (lv_at hl 1 rfl) ?_
  refine z_thrownr C0 hP hS (z_runVXr (As := [.int p0]) (rest := [.int 0, .ref (ad 230)]) C0 hTh hP hS hl.1 (hM _) lk_L_45 hT.n0 hfs rfl rfl (Nat.le_of_ble_eq_true rfl) hrc hrs hR ⟨Nat.le_of_ble_eq_true rfl, Nat.le_of_ble_eq_true rfl⟩ dL_keep_4) (fun g1 ce q9 H locs hp hP hS hce hcv hcl => ?_)
  obtain ⟨hT2, hF⟩ := hp
  refine vx_catch (own := RL) (name := zIAE) (E := zIAE) C0.2.2.2.1 [] ⟨0, 9, 12, 15⟩ [] htab (fun z hz => absurd hz List.not_mem_nil) (by decide) (by decide) (hts _ q566) ((hTh.2.2.1 zIAE (by simp [zEs])).use rfl) hce hcv hcl ?_
  refine lv_astore_n (lv' := [(3, .ref q9), (0, .ref (ad 0)), (1, .int p0), (2, .ref (ad 230))]) hx hb dL_keep_12 rfl hl (by decide) rfl (fun ls hl => ?_)
  refine lv_iconst (v := 1) hx hb dL_keep_13 (by decide) ?_
  exact z_iret C0 hP hS hr ⟨rfl, hT2, ⟨_, ⟨hO1, f, (hF 230 (by unfold zCl; omega)).trans hO2, hO3⟩, fun h => absurd h (by decide)⟩, hF.mono (fun z h => Or.inl h)⟩ dL_keep_14
theorem lh_goBack : zLh RL 129 yL_goBack cL_goBack 4 (some .int) [(0, 9, 12, 15), (0, 9, 15, 39)] 3 := zLh.of q714 q715 q51 q716 (by decide +kernel)
set_option maxHeartbeats 1000000 in
theorem wok_goBack (l : Launch) {D : va_G} {cy : Nat → ClassId} {K : Nat} {ad : Nat → Nat} {g : Nat → va_E} (sz : Nat) {p0 : Int32} {rm : Room} {v : Int32} {w : Int64} {C C2 : zCR} (hT : cT cy K ad g C) (hO : oV cy K g w) (hrc : rm.cells = 0) (hrs : rm.slots = 0) (hR : rm.frames + 1 ≤ 20 ∧ 8 + (3 + 11) + rm.locals ≤ 440) (hM : ∀ sz, Met l yX4_goBack (zs yX4_goBack cX4_goBack 3 (some .int)) rm (va_Pc [.ref (ad 0), .int p0] (zIn D cy K ad g sz)) (va_Qi (fun r g1 => r = v ∧ cT cy K ad g1 C2 ∧ zFr zCl g g1) (zOut D cy K ad sz) (zA K ad sz)) 0 0 (zA K ad sz)) : wM l yL_goBack cL_goBack 4 [(0, 9, 12, 15), (0, 9, 15, 39)] [.ref (ad 0), .int p0, .ref (ad 230)] D cy K ad g sz 0 v C2 := by
  refine z_metW (by decide) (Nat.le_of_ble_eq_true rfl) (fun p e s m below meth c ls hsz hl C0 htab hTh hN hr hP hS => ?_)
  subst hsz
  have hl : lv_has ls 4 [(0, .ref (ad 0)), (1, .int p0), (2, .ref (ad 230))] := hl
  have hx := C0.1; have hb := C0.2.1; have hts := C0.2.2.2.2.1
  obtain ⟨hO1, f, hO2, hO3⟩ := hO
  obtain ⟨fs, hfs⟩ := hT.rc
  refine W.widen (k := 1) (n := 6) (Nat.zero_le _) (Nat.zero_le _) ?_
  refine lv_aload_n hx hb dL_goBack_0 rfl (lv_at hl 2 rfl) ?_
  refine lv_iconst (v := 0) hx hb dL_goBack_1 (by decide) ?_
  refine lv_aload_n hx hb dL_goBack_2 rfl (lv_at hl 0 rfl) ?_
  refine lv_iload_n hx hb dL_goBack_3 rfl (lv_at hl 1 rfl) ?_
  refine z_Vi_mo (As := [.int p0]) (rest := [.int 0, .ref (ad 230)]) C0 hP hS hl.1 (hM _) lk_L_48 hT.n0 hfs rfl rfl (Nat.le_of_ble_eq_true rfl) hR hrc hrs ⟨Nat.le_of_ble_eq_true rfl, Nat.le_of_ble_eq_true rfl⟩ dL_goBack_4 (fun r g1 H locs hP hS hp => ?_)
  obtain ⟨hr1, hT2, hF⟩ := hp
  subst hr1
  have hO3 := (hF 230 (by unfold zCl; omega)).trans hO2
  refine lv_i2l (v := r.toInt64) hx hb dL_goBack_7 rfl ?_
  refine z_last C0 hP hS hO1 hO3 (zIx_of nI_0.symm (by decide) (by decide)) dL_goBack_8 (fun H locs hP hS => ?_)
  refine lv_goto (tgt := 18) hx hb dL_goBack_9 (by decide) ?_
  refine lv_iconst (v := 0) hx hb dL_goBack_18 (by decide) ?_
  exact z_iret C0 hP hS hr ⟨rfl, hT2.kept (P := fun z => z = 230) (zFr.up zFr.rf rfl) (fun z h q => by subst q; unfold zCl at h; omega), ⟨_, ⟨hO1, _, va_up_self _ _ _, if_pos rfl⟩, fun _ => rfl⟩, (hF.mono (fun z h => Or.inl h)).up (Or.inr rfl)⟩ dL_goBack_19
set_option maxHeartbeats 1000000 in
theorem wx1_goBack (l : Launch) {D : va_G} {cy : Nat → ClassId} {K : Nat} {ad : Nat → Nat} {g : Nat → va_E} (sz : Nat) {p0 : Int32} {rm : Room} {v : Int32} {w : Int64} {C C2 : zCR} (hT : cT cy K ad g C) (hO : oV cy K g w) (hrc : rm.cells = 1) (hrs : rm.slots = 6) (hR : rm.frames + 1 ≤ 20 ∧ 8 + (3 + 11) + rm.locals ≤ 440) (hM : ∀ sz, zXMr l yX4_goBack cX4_goBack 3 (some .int) rm [.ref (ad 0), .int p0] D cy K ad g sz zIAE (fun g1 => cT cy K ad g1 C2 ∧ zFr zCl g g1)) : wM l yL_goBack cL_goBack 4 [(0, 9, 12, 15), (0, 9, 15, 39)] [.ref (ad 0), .int p0, .ref (ad 230)] D cy K ad g sz 1 v C2 := by
  refine z_metW (by decide) (Nat.le_of_ble_eq_true rfl) (fun p e s m below meth c ls hsz hl C0 htab hTh hN hr hP hS => ?_)
  subst hsz
  have hl : lv_has ls 4 [(0, .ref (ad 0)), (1, .int p0), (2, .ref (ad 230))] := hl
  have hx := C0.1; have hb := C0.2.1; have hts := C0.2.2.2.2.1
  obtain ⟨hO1, f, hO2, hO3⟩ := hO
  obtain ⟨fs, hfs⟩ := hT.rc
  refine lv_aload_n hx hb dL_goBack_0 rfl (lv_at hl 2 rfl) ?_
  refine lv_iconst (v := 0) hx hb dL_goBack_1 (by decide) ?_
  refine lv_aload_n hx hb dL_goBack_2 rfl (lv_at hl 0 rfl) ?_
  refine lv_iload_n hx hb dL_goBack_3 rfl (lv_at hl 1 rfl) ?_
  refine z_thrownr C0 hP hS (z_runVXr (As := [.int p0]) (rest := [.int 0, .ref (ad 230)]) C0 hTh hP hS hl.1 (hM _) lk_L_48 hT.n0 hfs rfl rfl (Nat.le_of_ble_eq_true rfl) hrc hrs hR ⟨Nat.le_of_ble_eq_true rfl, Nat.le_of_ble_eq_true rfl⟩ dL_goBack_4) (fun g1 ce q9 H locs hp hP hS hce hcv hcl => ?_)
  obtain ⟨hT2, hF⟩ := hp
  refine vx_catch (own := RL) (name := zIAE) (E := zIAE) C0.2.2.2.1 [] ⟨0, 9, 12, 15⟩ [⟨0, 9, 15, 39⟩] htab (fun z hz => absurd hz List.not_mem_nil) (by decide) (by decide) (hts _ q566) ((hTh.2.2.1 zIAE (by simp [zEs])).use rfl) hce hcv hcl ?_
  refine lv_astore_n (lv' := [(3, .ref q9), (0, .ref (ad 0)), (1, .int p0), (2, .ref (ad 230))]) hx hb dL_goBack_12 rfl hl (by decide) rfl (fun ls hl => ?_)
  refine lv_iconst (v := 1) hx hb dL_goBack_13 (by decide) ?_
  exact z_iret C0 hP hS hr ⟨rfl, hT2, ⟨_, ⟨hO1, f, (hF 230 (by unfold zCl; omega)).trans hO2, hO3⟩, fun h => absurd h (by decide)⟩, hF.mono (fun z h => Or.inl h)⟩ dL_goBack_14
set_option maxHeartbeats 1000000 in
theorem wx2_goBack (l : Launch) {D : va_G} {cy : Nat → ClassId} {K : Nat} {ad : Nat → Nat} {g : Nat → va_E} (sz : Nat) {p0 : Int32} {rm : Room} {v : Int32} {w : Int64} {C C2 : zCR} (hT : cT cy K ad g C) (hO : oV cy K g w) (hrc : rm.cells = 1) (hrs : rm.slots = 6) (hR : rm.frames + 1 ≤ 20 ∧ 8 + (3 + 11) + rm.locals ≤ 440) (hM : ∀ sz, zXMr l yX4_goBack cX4_goBack 3 (some .int) rm [.ref (ad 0), .int p0] D cy K ad g sz zISE (fun g1 => cT cy K ad g1 C2 ∧ zFr zCl g g1)) : wM l yL_goBack cL_goBack 4 [(0, 9, 12, 15), (0, 9, 15, 39)] [.ref (ad 0), .int p0, .ref (ad 230)] D cy K ad g sz 2 v C2 := by
  refine z_metW (by decide) (Nat.le_of_ble_eq_true rfl) (fun p e s m below meth c ls hsz hl C0 htab hTh hN hr hP hS => ?_)
  subst hsz
  have hl : lv_has ls 4 [(0, .ref (ad 0)), (1, .int p0), (2, .ref (ad 230))] := hl
  have hx := C0.1; have hb := C0.2.1; have hts := C0.2.2.2.2.1
  obtain ⟨hO1, f, hO2, hO3⟩ := hO
  obtain ⟨fs, hfs⟩ := hT.rc
  refine lv_aload_n hx hb dL_goBack_0 rfl (lv_at hl 2 rfl) ?_
  refine lv_iconst (v := 0) hx hb dL_goBack_1 (by decide) ?_
  refine lv_aload_n hx hb dL_goBack_2 rfl (lv_at hl 0 rfl) ?_
  refine lv_iload_n hx hb dL_goBack_3 rfl (lv_at hl 1 rfl) ?_
  refine z_thrownr C0 hP hS (z_runVXr (As := [.int p0]) (rest := [.int 0, .ref (ad 230)]) C0 hTh hP hS hl.1 (hM _) lk_L_48 hT.n0 hfs rfl rfl (Nat.le_of_ble_eq_true rfl) hrc hrs hR ⟨Nat.le_of_ble_eq_true rfl, Nat.le_of_ble_eq_true rfl⟩ dL_goBack_4) (fun g1 ce q9 H locs hp hP hS hce hcv hcl => ?_)
  obtain ⟨hT2, hF⟩ := hp
  refine vx_catch (own := RL) (name := zISE) (E := zISE) C0.2.2.2.1 [⟨0, 9, 12, 15⟩] ⟨0, 9, 15, 39⟩ [] htab (fun z hz => by rw [List.mem_singleton.mp hz]; exact Or.inr ⟨by decide, zIAE, hts _ q566, hN.2⟩) (by decide) (by decide) (hts _ q664) ((hTh.2.2.1 zISE (by simp [zEs])).use rfl) hce hcv hcl ?_
  refine lv_astore_n (lv' := [(3, .ref q9), (0, .ref (ad 0)), (1, .int p0), (2, .ref (ad 230))]) hx hb dL_goBack_15 rfl hl (by decide) rfl (fun ls hl => ?_)
  refine lv_iconst (v := 2) hx hb dL_goBack_16 (by decide) ?_
  exact z_iret C0 hP hS hr ⟨rfl, hT2, ⟨_, ⟨hO1, f, (hF 230 (by unfold zCl; omega)).trans hO2, hO3⟩, fun h => absurd h (by decide)⟩, hF.mono (fun z h => Or.inl h)⟩ dL_goBack_17
theorem lh_undo : zLh RL 132 yL_undo cL_undo 3 (some .int) [(0, 8, 11, 39)] 2 := zLh.of q722 q723 q51 q724 (by decide +kernel)
set_option maxHeartbeats 1000000 in
theorem wok_undo (l : Launch) {D : va_G} {cy : Nat → ClassId} {K : Nat} {ad : Nat → Nat} {g : Nat → va_E} (sz : Nat) {rm : Room} {v : Int32} {w : Int64} {C C2 : zCR} (hT : cT cy K ad g C) (hO : oV cy K g w) (hrc : rm.cells = 0) (hrs : rm.slots = 0) (hR : rm.frames + 1 ≤ 20 ∧ 8 + (1 + 11) + rm.locals ≤ 440) (hM : ∀ sz, Met l yX4_undo (zs yX4_undo cX4_undo 1 (some .int)) rm (va_Pc [.ref (ad 0)] (zIn D cy K ad g sz)) (va_Qi (fun r g1 => r = v ∧ cT cy K ad g1 C2 ∧ zFr zCl g g1) (zOut D cy K ad sz) (zA K ad sz)) 0 0 (zA K ad sz)) : wM l yL_undo cL_undo 3 [(0, 8, 11, 39)] [.ref (ad 0), .ref (ad 230)] D cy K ad g sz 0 v C2 := by
  refine z_metW (by decide) (Nat.le_of_ble_eq_true rfl) (fun p e s m below meth c ls hsz hl C0 htab hTh hN hr hP hS => ?_)
  subst hsz
  have hl : lv_has ls 3 [(0, .ref (ad 0)), (1, .ref (ad 230))] := hl
  have hx := C0.1; have hb := C0.2.1; have hts := C0.2.2.2.2.1
  obtain ⟨hO1, f, hO2, hO3⟩ := hO
  obtain ⟨fs, hfs⟩ := hT.rc
  refine W.widen (k := 1) (n := 6) (Nat.zero_le _) (Nat.zero_le _) ?_
  refine lv_aload_n hx hb dL_undo_0 rfl (lv_at hl 1 rfl) ?_
  refine lv_iconst (v := 0) hx hb dL_undo_1 (by decide) ?_
  refine lv_aload_n hx hb dL_undo_2 rfl (lv_at hl 0 rfl) ?_
  refine z_Vi_mo (As := []) (rest := [.int 0, .ref (ad 230)]) C0 hP hS hl.1 (hM _) lk_L_51 hT.n0 hfs rfl rfl (Nat.le_of_ble_eq_true rfl) hR hrc hrs ⟨Nat.le_of_ble_eq_true rfl, Nat.le_of_ble_eq_true rfl⟩ dL_undo_3 (fun r g1 H locs hP hS hp => ?_)
  obtain ⟨hr1, hT2, hF⟩ := hp
  subst hr1
  have hO3 := (hF 230 (by unfold zCl; omega)).trans hO2
  refine lv_i2l (v := r.toInt64) hx hb dL_undo_6 rfl ?_
  refine z_last C0 hP hS hO1 hO3 (zIx_of nI_0.symm (by decide) (by decide)) dL_undo_7 (fun H locs hP hS => ?_)
  refine lv_goto (tgt := 14) hx hb dL_undo_8 (by decide) ?_
  refine lv_iconst (v := 0) hx hb dL_undo_14 (by decide) ?_
  exact z_iret C0 hP hS hr ⟨rfl, hT2.kept (P := fun z => z = 230) (zFr.up zFr.rf rfl) (fun z h q => by subst q; unfold zCl at h; omega), ⟨_, ⟨hO1, _, va_up_self _ _ _, if_pos rfl⟩, fun _ => rfl⟩, (hF.mono (fun z h => Or.inl h)).up (Or.inr rfl)⟩ dL_undo_15
set_option maxHeartbeats 1000000 in
theorem wx1_undo (l : Launch) {D : va_G} {cy : Nat → ClassId} {K : Nat} {ad : Nat → Nat} {g : Nat → va_E} (sz : Nat) {rm : Room} {v : Int32} {w : Int64} {C C2 : zCR} (hT : cT cy K ad g C) (hO : oV cy K g w) (hrc : rm.cells = 1) (hrs : rm.slots = 6) (hR : rm.frames + 1 ≤ 20 ∧ 8 + (1 + 11) + rm.locals ≤ 440) (hM : ∀ sz, zXMr l yX4_undo cX4_undo 1 (some .int) rm [.ref (ad 0)] D cy K ad g sz zISE (fun g1 => cT cy K ad g1 C2 ∧ zFr zCl g g1)) : wM l yL_undo cL_undo 3 [(0, 8, 11, 39)] [.ref (ad 0), .ref (ad 230)] D cy K ad g sz 1 v C2 := by
  refine z_metW (by decide) (Nat.le_of_ble_eq_true rfl) (fun p e s m below meth c ls hsz hl C0 htab hTh hN hr hP hS => ?_)
  subst hsz
  have hl : lv_has ls 3 [(0, .ref (ad 0)), (1, .ref (ad 230))] := hl
  have hx := C0.1; have hb := C0.2.1; have hts := C0.2.2.2.2.1
  obtain ⟨hO1, f, hO2, hO3⟩ := hO
  obtain ⟨fs, hfs⟩ := hT.rc
  refine lv_aload_n hx hb dL_undo_0 rfl (lv_at hl 1 rfl) ?_
  refine lv_iconst (v := 0) hx hb dL_undo_1 (by decide) ?_
  refine lv_aload_n hx hb dL_undo_2 rfl (lv_at hl 0 rfl) ?_
  refine z_thrownr C0 hP hS (z_runVXr (As := []) (rest := [.int 0, .ref (ad 230)]) C0 hTh hP hS hl.1 (hM _) lk_L_51 hT.n0 hfs rfl rfl (Nat.le_of_ble_eq_true rfl) hrc hrs hR ⟨Nat.le_of_ble_eq_true rfl, Nat.le_of_ble_eq_true rfl⟩ dL_undo_3) (fun g1 ce q9 H locs hp hP hS hce hcv hcl => ?_)
  obtain ⟨hT2, hF⟩ := hp
  refine vx_catch (own := RL) (name := zISE) (E := zISE) C0.2.2.2.1 [] ⟨0, 8, 11, 39⟩ [] htab (fun z hz => absurd hz List.not_mem_nil) (by decide) (by decide) (hts _ q664) ((hTh.2.2.1 zISE (by simp [zEs])).use rfl) hce hcv hcl ?_
  refine lv_astore_n (lv' := [(2, .ref q9), (0, .ref (ad 0)), (1, .ref (ad 230))]) hx hb dL_undo_11 rfl hl (by decide) rfl (fun ls hl => ?_)
  refine lv_iconst (v := 1) hx hb dL_undo_12 (by decide) ?_
  exact z_iret C0 hP hS hr ⟨rfl, hT2, ⟨_, ⟨hO1, f, (hF 230 (by unfold zCl; omega)).trans hO2, hO3⟩, fun h => absurd h (by decide)⟩, hF.mono (fun z h => Or.inl h)⟩ dL_undo_13
theorem lh_cordOf : zLh RL 135 yL_cordOf cL_cordOf 5 (some .int) [(0, 10, 13, 13), (0, 10, 17, 15)] 4 := zLh.of q734 q735 q51 q736 (by decide +kernel)
set_option maxHeartbeats 1000000 in
theorem wok_cordOf (l : Launch) {D : va_G} {cy : Nat → ClassId} {K : Nat} {ad : Nat → Nat} {g : Nat → va_E} (sz : Nat) {p0 p1 : Int32} {rm : Room} {v : Int32} {w : Int64} {C C2 : zCR} (hT : cT cy K ad g C) (hO : oV cy K g w) (hrc : rm.cells = 0) (hrs : rm.slots = 0) (hR : rm.frames + 1 ≤ 20 ∧ 8 + (4 + 11) + rm.locals ≤ 440) (hM : ∀ sz, Met l yX4_cordOf (zs yX4_cordOf cX4_cordOf 4 (some .int)) rm (va_Pc [.ref (ad 0), .int p0, .int p1] (zIn D cy K ad g sz)) (va_Qi (fun r g1 => r = v ∧ cT cy K ad g1 C2 ∧ zFr zCl g g1) (zOut D cy K ad sz) (zA K ad sz)) 0 0 (zA K ad sz)) : wM l yL_cordOf cL_cordOf 5 [(0, 10, 13, 13), (0, 10, 17, 15)] [.ref (ad 0), .int p0, .int p1, .ref (ad 230)] D cy K ad g sz 0 v C2 := by
  refine z_metW (by decide) (Nat.le_of_ble_eq_true rfl) (fun p e s m below meth c ls hsz hl C0 htab hTh hN hr hP hS => ?_)
  subst hsz
  have hl : lv_has ls 5 [(0, .ref (ad 0)), (1, .int p0), (2, .int p1), (3, .ref (ad 230))] := hl
  have hx := C0.1; have hb := C0.2.1; have hts := C0.2.2.2.2.1
  obtain ⟨hO1, f, hO2, hO3⟩ := hO
  obtain ⟨fs, hfs⟩ := hT.rc
  refine W.widen (k := 1) (n := 6) (Nat.zero_le _) (Nat.zero_le _) ?_
  refine lv_aload_n hx hb dL_cordOf_0 rfl (lv_at hl 3 rfl) ?_
  refine lv_iconst (v := 0) hx hb dL_cordOf_1 (by decide) ?_
  refine lv_aload_n hx hb dL_cordOf_2 rfl (lv_at hl 0 rfl) ?_
  refine lv_iload_n hx hb dL_cordOf_3 rfl (lv_at hl 1 rfl) ?_
  refine lv_iload_n hx hb dL_cordOf_4 rfl (lv_at hl 2 rfl) ?_
  refine z_Vi_mo (As := [.int p0, .int p1]) (rest := [.int 0, .ref (ad 230)]) C0 hP hS hl.1 (hM _) lk_L_54 hT.n0 hfs rfl rfl (Nat.le_of_ble_eq_true rfl) hR hrc hrs ⟨Nat.le_of_ble_eq_true rfl, Nat.le_of_ble_eq_true rfl⟩ dL_cordOf_5 (fun r g1 H locs hP hS hp => ?_)
  obtain ⟨hr1, hT2, hF⟩ := hp
  subst hr1
  have hO3 := (hF 230 (by unfold zCl; omega)).trans hO2
  refine lv_i2l (v := r.toInt64) hx hb dL_cordOf_8 rfl ?_
  refine z_last C0 hP hS hO1 hO3 (zIx_of nI_0.symm (by decide) (by decide)) dL_cordOf_9 (fun H locs hP hS => ?_)
  refine lv_goto (tgt := 21) hx hb dL_cordOf_10 (by decide) ?_
  refine lv_iconst (v := 0) hx hb dL_cordOf_21 (by decide) ?_
  exact z_iret C0 hP hS hr ⟨rfl, hT2.kept (P := fun z => z = 230) (zFr.up zFr.rf rfl) (fun z h q => by subst q; unfold zCl at h; omega), ⟨_, ⟨hO1, _, va_up_self _ _ _, if_pos rfl⟩, fun _ => rfl⟩, (hF.mono (fun z h => Or.inl h)).up (Or.inr rfl)⟩ dL_cordOf_22
set_option maxHeartbeats 1000000 in
theorem wx1_cordOf (l : Launch) {D : va_G} {cy : Nat → ClassId} {K : Nat} {ad : Nat → Nat} {g : Nat → va_E} (sz : Nat) {p0 p1 : Int32} {rm : Room} {v : Int32} {w : Int64} {C C2 : zCR} (hT : cT cy K ad g C) (hO : oV cy K g w) (hrc : rm.cells = 1) (hrs : rm.slots = 6) (hR : rm.frames + 1 ≤ 20 ∧ 8 + (4 + 11) + rm.locals ≤ 440) (hM : ∀ sz, zXMr l yX4_cordOf cX4_cordOf 4 (some .int) rm [.ref (ad 0), .int p0, .int p1] D cy K ad g sz zIOB (fun g1 => cT cy K ad g1 C2 ∧ zFr zCl g g1)) : wM l yL_cordOf cL_cordOf 5 [(0, 10, 13, 13), (0, 10, 17, 15)] [.ref (ad 0), .int p0, .int p1, .ref (ad 230)] D cy K ad g sz 1 v C2 := by
  refine z_metW (by decide) (Nat.le_of_ble_eq_true rfl) (fun p e s m below meth c ls hsz hl C0 htab hTh hN hr hP hS => ?_)
  subst hsz
  have hl : lv_has ls 5 [(0, .ref (ad 0)), (1, .int p0), (2, .int p1), (3, .ref (ad 230))] := hl
  have hx := C0.1; have hb := C0.2.1; have hts := C0.2.2.2.2.1
  obtain ⟨hO1, f, hO2, hO3⟩ := hO
  obtain ⟨fs, hfs⟩ := hT.rc
  refine lv_aload_n hx hb dL_cordOf_0 rfl (lv_at hl 3 rfl) ?_
  refine lv_iconst (v := 0) hx hb dL_cordOf_1 (by decide) ?_
  refine lv_aload_n hx hb dL_cordOf_2 rfl (lv_at hl 0 rfl) ?_
  refine lv_iload_n hx hb dL_cordOf_3 rfl (lv_at hl 1 rfl) ?_
  refine lv_iload_n hx hb dL_cordOf_4 rfl (lv_at hl 2 rfl) ?_
  refine z_thrownr C0 hP hS (z_runVXr (As := [.int p0, .int p1]) (rest := [.int 0, .ref (ad 230)]) C0 hTh hP hS hl.1 (hM _) lk_L_54 hT.n0 hfs rfl rfl (Nat.le_of_ble_eq_true rfl) hrc hrs hR ⟨Nat.le_of_ble_eq_true rfl, Nat.le_of_ble_eq_true rfl⟩ dL_cordOf_5) (fun g1 ce q9 H locs hp hP hS hce hcv hcl => ?_)
  obtain ⟨hT2, hF⟩ := hp
  refine vx_catch (own := RL) (name := zIOB) (E := zIOB) C0.2.2.2.1 [] ⟨0, 10, 13, 13⟩ [⟨0, 10, 17, 15⟩] htab (fun z hz => absurd hz List.not_mem_nil) (by decide) (by decide) (hts _ q565) ((hTh.2.2.1 zIOB (by simp [zEs])).use rfl) hce hcv hcl ?_
  refine lv_astore (lv' := [(4, .ref q9), (0, .ref (ad 0)), (1, .int p0), (2, .int p1), (3, .ref (ad 230))]) hx hb dL_cordOf_13 hl (by decide) rfl (fun ls hl => ?_)
  refine lv_iconst (v := 1) hx hb dL_cordOf_15 (by decide) ?_
  exact z_iret C0 hP hS hr ⟨rfl, hT2, ⟨_, ⟨hO1, f, (hF 230 (by unfold zCl; omega)).trans hO2, hO3⟩, fun h => absurd h (by decide)⟩, hF.mono (fun z h => Or.inl h)⟩ dL_cordOf_16
set_option maxHeartbeats 1000000 in
theorem wx2_cordOf (l : Launch) {D : va_G} {cy : Nat → ClassId} {K : Nat} {ad : Nat → Nat} {g : Nat → va_E} (sz : Nat) {p0 p1 : Int32} {rm : Room} {v : Int32} {w : Int64} {C C2 : zCR} (hT : cT cy K ad g C) (hO : oV cy K g w) (hrc : rm.cells = 1) (hrs : rm.slots = 6) (hR : rm.frames + 1 ≤ 20 ∧ 8 + (4 + 11) + rm.locals ≤ 440) (hM : ∀ sz, zXMr l yX4_cordOf cX4_cordOf 4 (some .int) rm [.ref (ad 0), .int p0, .int p1] D cy K ad g sz zIAE (fun g1 => cT cy K ad g1 C2 ∧ zFr zCl g g1)) : wM l yL_cordOf cL_cordOf 5 [(0, 10, 13, 13), (0, 10, 17, 15)] [.ref (ad 0), .int p0, .int p1, .ref (ad 230)] D cy K ad g sz 2 v C2 := by
  refine z_metW (by decide) (Nat.le_of_ble_eq_true rfl) (fun p e s m below meth c ls hsz hl C0 htab hTh hN hr hP hS => ?_)
  subst hsz
  have hl : lv_has ls 5 [(0, .ref (ad 0)), (1, .int p0), (2, .int p1), (3, .ref (ad 230))] := hl
  have hx := C0.1; have hb := C0.2.1; have hts := C0.2.2.2.2.1
  obtain ⟨hO1, f, hO2, hO3⟩ := hO
  obtain ⟨fs, hfs⟩ := hT.rc
  refine lv_aload_n hx hb dL_cordOf_0 rfl (lv_at hl 3 rfl) ?_
  refine lv_iconst (v := 0) hx hb dL_cordOf_1 (by decide) ?_
  refine lv_aload_n hx hb dL_cordOf_2 rfl (lv_at hl 0 rfl) ?_
  refine lv_iload_n hx hb dL_cordOf_3 rfl (lv_at hl 1 rfl) ?_
  refine lv_iload_n hx hb dL_cordOf_4 rfl (lv_at hl 2 rfl) ?_
  refine z_thrownr C0 hP hS (z_runVXr (As := [.int p0, .int p1]) (rest := [.int 0, .ref (ad 230)]) C0 hTh hP hS hl.1 (hM _) lk_L_54 hT.n0 hfs rfl rfl (Nat.le_of_ble_eq_true rfl) hrc hrs hR ⟨Nat.le_of_ble_eq_true rfl, Nat.le_of_ble_eq_true rfl⟩ dL_cordOf_5) (fun g1 ce q9 H locs hp hP hS hce hcv hcl => ?_)
  obtain ⟨hT2, hF⟩ := hp
  refine vx_catch (own := RL) (name := zIAE) (E := zIAE) C0.2.2.2.1 [⟨0, 10, 13, 13⟩] ⟨0, 10, 17, 15⟩ [] htab (fun z hz => by rw [List.mem_singleton.mp hz]; exact Or.inr ⟨by decide, zIOB, hts _ q565, hN.1⟩) (by decide) (by decide) (hts _ q566) ((hTh.2.2.1 zIAE (by simp [zEs])).use rfl) hce hcv hcl ?_
  refine lv_astore (lv' := [(4, .ref q9), (0, .ref (ad 0)), (1, .int p0), (2, .int p1), (3, .ref (ad 230))]) hx hb dL_cordOf_17 hl (by decide) rfl (fun ls hl => ?_)
  refine lv_iconst (v := 2) hx hb dL_cordOf_19 (by decide) ?_
  exact z_iret C0 hP hS hr ⟨rfl, hT2, ⟨_, ⟨hO1, f, (hF 230 (by unfold zCl; omega)).trans hO2, hO3⟩, fun h => absurd h (by decide)⟩, hF.mono (fun z h => Or.inl h)⟩ dL_cordOf_20
theorem lh_placeOf : zLh RL 138 yL_placeOf cL_placeOf 6 (some .int) [(0, 12, 15, 13), (0, 12, 19, 15)] 5 := zLh.of q738 q739 q51 q740 (by decide +kernel)
set_option maxHeartbeats 1000000 in
theorem wok_placeOf (l : Launch) {D : va_G} {cy : Nat → ClassId} {K : Nat} {ad : Nat → Nat} {g : Nat → va_E} (sz : Nat) {p0 p1 p2 : Int32} {rm : Room} {v : Int32} {w : Int64} {C C2 : zCR} (hT : cT cy K ad g C) (hO : oV cy K g w) (hrc : rm.cells = 0) (hrs : rm.slots = 0) (hR : rm.frames + 1 ≤ 20 ∧ 8 + (5 + 11) + rm.locals ≤ 440) (hM : ∀ sz, Met l yX4_placeOf (zs yX4_placeOf cX4_placeOf 5 (some .int)) rm (va_Pc [.ref (ad 0), .int p0, .int p1, .int p2] (zIn D cy K ad g sz)) (va_Qi (fun r g1 => r = v ∧ cT cy K ad g1 C2 ∧ zFr zCl g g1) (zOut D cy K ad sz) (zA K ad sz)) 0 0 (zA K ad sz)) : wM l yL_placeOf cL_placeOf 6 [(0, 12, 15, 13), (0, 12, 19, 15)] [.ref (ad 0), .int p0, .int p1, .int p2, .ref (ad 230)] D cy K ad g sz 0 v C2 := by
  refine z_metW (by decide) (Nat.le_of_ble_eq_true rfl) (fun p e s m below meth c ls hsz hl C0 htab hTh hN hr hP hS => ?_)
  subst hsz
  have hl : lv_has ls 6 [(0, .ref (ad 0)), (1, .int p0), (2, .int p1), (3, .int p2), (4, .ref (ad 230))] := hl
  have hx := C0.1; have hb := C0.2.1; have hts := C0.2.2.2.2.1
  obtain ⟨hO1, f, hO2, hO3⟩ := hO
  obtain ⟨fs, hfs⟩ := hT.rc
  refine W.widen (k := 1) (n := 6) (Nat.zero_le _) (Nat.zero_le _) ?_
  refine lv_aload hx hb dL_placeOf_0 (lv_at hl 4 rfl) ?_
  refine lv_iconst (v := 0) hx hb dL_placeOf_2 (by decide) ?_
  refine lv_aload_n hx hb dL_placeOf_3 rfl (lv_at hl 0 rfl) ?_
  refine lv_iload_n hx hb dL_placeOf_4 rfl (lv_at hl 1 rfl) ?_
  refine lv_iload_n hx hb dL_placeOf_5 rfl (lv_at hl 2 rfl) ?_
  refine lv_iload_n hx hb dL_placeOf_6 rfl (lv_at hl 3 rfl) ?_
  refine z_Vi_mo (As := [.int p0, .int p1, .int p2]) (rest := [.int 0, .ref (ad 230)]) C0 hP hS hl.1 (hM _) lk_L_57 hT.n0 hfs rfl rfl (Nat.le_of_ble_eq_true rfl) hR hrc hrs ⟨Nat.le_of_ble_eq_true rfl, Nat.le_of_ble_eq_true rfl⟩ dL_placeOf_7 (fun r g1 H locs hP hS hp => ?_)
  obtain ⟨hr1, hT2, hF⟩ := hp
  subst hr1
  have hO3 := (hF 230 (by unfold zCl; omega)).trans hO2
  refine lv_i2l (v := r.toInt64) hx hb dL_placeOf_10 rfl ?_
  refine z_last C0 hP hS hO1 hO3 (zIx_of nI_0.symm (by decide) (by decide)) dL_placeOf_11 (fun H locs hP hS => ?_)
  refine lv_goto (tgt := 23) hx hb dL_placeOf_12 (by decide) ?_
  refine lv_iconst (v := 0) hx hb dL_placeOf_23 (by decide) ?_
  exact z_iret C0 hP hS hr ⟨rfl, hT2.kept (P := fun z => z = 230) (zFr.up zFr.rf rfl) (fun z h q => by subst q; unfold zCl at h; omega), ⟨_, ⟨hO1, _, va_up_self _ _ _, if_pos rfl⟩, fun _ => rfl⟩, (hF.mono (fun z h => Or.inl h)).up (Or.inr rfl)⟩ dL_placeOf_24
set_option maxHeartbeats 1000000 in
theorem wx1_placeOf (l : Launch) {D : va_G} {cy : Nat → ClassId} {K : Nat} {ad : Nat → Nat} {g : Nat → va_E} (sz : Nat) {p0 p1 p2 : Int32} {rm : Room} {v : Int32} {w : Int64} {C C2 : zCR} (hT : cT cy K ad g C) (hO : oV cy K g w) (hrc : rm.cells = 1) (hrs : rm.slots = 6) (hR : rm.frames + 1 ≤ 20 ∧ 8 + (5 + 11) + rm.locals ≤ 440) (hM : ∀ sz, zXMr l yX4_placeOf cX4_placeOf 5 (some .int) rm [.ref (ad 0), .int p0, .int p1, .int p2] D cy K ad g sz zIOB (fun g1 => cT cy K ad g1 C2 ∧ zFr zCl g g1)) : wM l yL_placeOf cL_placeOf 6 [(0, 12, 15, 13), (0, 12, 19, 15)] [.ref (ad 0), .int p0, .int p1, .int p2, .ref (ad 230)] D cy K ad g sz 1 v C2 := by
  refine z_metW (by decide) (Nat.le_of_ble_eq_true rfl) (fun p e s m below meth c ls hsz hl C0 htab hTh hN hr hP hS => ?_)
  subst hsz
  have hl : lv_has ls 6 [(0, .ref (ad 0)), (1, .int p0), (2, .int p1), (3, .int p2), (4, .ref (ad 230))] := hl
  have hx := C0.1; have hb := C0.2.1; have hts := C0.2.2.2.2.1
  obtain ⟨hO1, f, hO2, hO3⟩ := hO
  obtain ⟨fs, hfs⟩ := hT.rc
  refine lv_aload hx hb dL_placeOf_0 (lv_at hl 4 rfl) ?_
  refine lv_iconst (v := 0) hx hb dL_placeOf_2 (by decide) ?_
  refine lv_aload_n hx hb dL_placeOf_3 rfl (lv_at hl 0 rfl) ?_
  refine lv_iload_n hx hb dL_placeOf_4 rfl (lv_at hl 1 rfl) ?_
  refine lv_iload_n hx hb dL_placeOf_5 rfl (lv_at hl 2 rfl) ?_
  refine lv_iload_n hx hb dL_placeOf_6 rfl (lv_at hl 3 rfl) ?_
  refine z_thrownr C0 hP hS (z_runVXr (As := [.int p0, .int p1, .int p2]) (rest := [.int 0, .ref (ad 230)]) C0 hTh hP hS hl.1 (hM _) lk_L_57 hT.n0 hfs rfl rfl (Nat.le_of_ble_eq_true rfl) hrc hrs hR ⟨Nat.le_of_ble_eq_true rfl, Nat.le_of_ble_eq_true rfl⟩ dL_placeOf_7) (fun g1 ce q9 H locs hp hP hS hce hcv hcl => ?_)
  obtain ⟨hT2, hF⟩ := hp
  refine vx_catch (own := RL) (name := zIOB) (E := zIOB) C0.2.2.2.1 [] ⟨0, 12, 15, 13⟩ [⟨0, 12, 19, 15⟩] htab (fun z hz => absurd hz List.not_mem_nil) (by decide) (by decide) (hts _ q565) ((hTh.2.2.1 zIOB (by simp [zEs])).use rfl) hce hcv hcl ?_
  refine lv_astore (lv' := [(5, .ref q9), (0, .ref (ad 0)), (1, .int p0), (2, .int p1), (3, .int p2), (4, .ref (ad 230))]) hx hb dL_placeOf_15 hl (by decide) rfl (fun ls hl => ?_)
  refine lv_iconst (v := 1) hx hb dL_placeOf_17 (by decide) ?_
  exact z_iret C0 hP hS hr ⟨rfl, hT2, ⟨_, ⟨hO1, f, (hF 230 (by unfold zCl; omega)).trans hO2, hO3⟩, fun h => absurd h (by decide)⟩, hF.mono (fun z h => Or.inl h)⟩ dL_placeOf_18
set_option maxHeartbeats 1000000 in
theorem wx2_placeOf (l : Launch) {D : va_G} {cy : Nat → ClassId} {K : Nat} {ad : Nat → Nat} {g : Nat → va_E} (sz : Nat) {p0 p1 p2 : Int32} {rm : Room} {v : Int32} {w : Int64} {C C2 : zCR} (hT : cT cy K ad g C) (hO : oV cy K g w) (hrc : rm.cells = 1) (hrs : rm.slots = 6) (hR : rm.frames + 1 ≤ 20 ∧ 8 + (5 + 11) + rm.locals ≤ 440) (hM : ∀ sz, zXMr l yX4_placeOf cX4_placeOf 5 (some .int) rm [.ref (ad 0), .int p0, .int p1, .int p2] D cy K ad g sz zIAE (fun g1 => cT cy K ad g1 C2 ∧ zFr zCl g g1)) : wM l yL_placeOf cL_placeOf 6 [(0, 12, 15, 13), (0, 12, 19, 15)] [.ref (ad 0), .int p0, .int p1, .int p2, .ref (ad 230)] D cy K ad g sz 2 v C2 := by
  refine z_metW (by decide) (Nat.le_of_ble_eq_true rfl) (fun p e s m below meth c ls hsz hl C0 htab hTh hN hr hP hS => ?_)
  subst hsz
  have hl : lv_has ls 6 [(0, .ref (ad 0)), (1, .int p0), (2, .int p1), (3, .int p2), (4, .ref (ad 230))] := hl
  have hx := C0.1; have hb := C0.2.1; have hts := C0.2.2.2.2.1
  obtain ⟨hO1, f, hO2, hO3⟩ := hO
  obtain ⟨fs, hfs⟩ := hT.rc
  refine lv_aload hx hb dL_placeOf_0 (lv_at hl 4 rfl) ?_
  refine lv_iconst (v := 0) hx hb dL_placeOf_2 (by decide) ?_
  refine lv_aload_n hx hb dL_placeOf_3 rfl (lv_at hl 0 rfl) ?_
  refine lv_iload_n hx hb dL_placeOf_4 rfl (lv_at hl 1 rfl) ?_
  refine lv_iload_n hx hb dL_placeOf_5 rfl (lv_at hl 2 rfl) ?_
  refine lv_iload_n hx hb dL_placeOf_6 rfl (lv_at hl 3 rfl) ?_
  refine z_thrownr C0 hP hS (z_runVXr (As := [.int p0, .int p1, .int p2]) (rest := [.int 0, .ref (ad 230)]) C0 hTh hP hS hl.1 (hM _) lk_L_57 hT.n0 hfs rfl rfl (Nat.le_of_ble_eq_true rfl) hrc hrs hR ⟨Nat.le_of_ble_eq_true rfl, Nat.le_of_ble_eq_true rfl⟩ dL_placeOf_7) (fun g1 ce q9 H locs hp hP hS hce hcv hcl => ?_)
  obtain ⟨hT2, hF⟩ := hp
  refine vx_catch (own := RL) (name := zIAE) (E := zIAE) C0.2.2.2.1 [⟨0, 12, 15, 13⟩] ⟨0, 12, 19, 15⟩ [] htab (fun z hz => by rw [List.mem_singleton.mp hz]; exact Or.inr ⟨by decide, zIOB, hts _ q565, hN.1⟩) (by decide) (by decide) (hts _ q566) ((hTh.2.2.1 zIAE (by simp [zEs])).use rfl) hce hcv hcl ?_
  refine lv_astore (lv' := [(5, .ref q9), (0, .ref (ad 0)), (1, .int p0), (2, .int p1), (3, .int p2), (4, .ref (ad 230))]) hx hb dL_placeOf_19 hl (by decide) rfl (fun ls hl => ?_)
  refine lv_iconst (v := 2) hx hb dL_placeOf_21 (by decide) ?_
  exact z_iret C0 hP hS hr ⟨rfl, hT2, ⟨_, ⟨hO1, f, (hF 230 (by unfold zCl; omega)).trans hO2, hO3⟩, fun h => absurd h (by decide)⟩, hF.mono (fun z h => Or.inl h)⟩ dL_placeOf_22
theorem lh_part : zLh RL 142 yL_part cL_part 5 (some .int) [(0, 10, 13, 13), (0, 10, 17, 15)] 4 := zLh.of q742 q743 q51 q744 (by decide +kernel)
set_option maxHeartbeats 1000000 in
theorem wok_part (l : Launch) {D : va_G} {cy : Nat → ClassId} {K : Nat} {ad : Nat → Nat} {g : Nat → va_E} (sz : Nat) {p0 p1 : Int32} {rm : Room} {v : Int32} {w : Int64} {C C2 : zCR} (hT : cT cy K ad g C) (hO : oV cy K g w) (hrc : rm.cells = 0) (hrs : rm.slots = 0) (hR : rm.frames + 1 ≤ 20 ∧ 8 + (4 + 11) + rm.locals ≤ 440) (hM : ∀ sz, Met l yX4_part (zs yX4_part cX4_part 4 (some .int)) rm (va_Pc [.ref (ad 0), .int p0, .int p1] (zIn D cy K ad g sz)) (va_Qi (fun r g1 => r = v ∧ cT cy K ad g1 C2 ∧ zFr zCl g g1) (zOut D cy K ad sz) (zA K ad sz)) 0 0 (zA K ad sz)) : wM l yL_part cL_part 5 [(0, 10, 13, 13), (0, 10, 17, 15)] [.ref (ad 0), .int p0, .int p1, .ref (ad 230)] D cy K ad g sz 0 v C2 := by
  refine z_metW (by decide) (Nat.le_of_ble_eq_true rfl) (fun p e s m below meth c ls hsz hl C0 htab hTh hN hr hP hS => ?_)
  subst hsz
  have hl : lv_has ls 5 [(0, .ref (ad 0)), (1, .int p0), (2, .int p1), (3, .ref (ad 230))] := hl
  have hx := C0.1; have hb := C0.2.1; have hts := C0.2.2.2.2.1
  obtain ⟨hO1, f, hO2, hO3⟩ := hO
  obtain ⟨fs, hfs⟩ := hT.rc
  refine W.widen (k := 1) (n := 6) (Nat.zero_le _) (Nat.zero_le _) ?_
  refine lv_aload_n hx hb dL_part_0 rfl (lv_at hl 3 rfl) ?_
  refine lv_iconst (v := 0) hx hb dL_part_1 (by decide) ?_
  refine lv_aload_n hx hb dL_part_2 rfl (lv_at hl 0 rfl) ?_
  refine lv_iload_n hx hb dL_part_3 rfl (lv_at hl 1 rfl) ?_
  refine lv_iload_n hx hb dL_part_4 rfl (lv_at hl 2 rfl) ?_
  refine z_Vi_mo (As := [.int p0, .int p1]) (rest := [.int 0, .ref (ad 230)]) C0 hP hS hl.1 (hM _) lk_L_61 hT.n0 hfs rfl rfl (Nat.le_of_ble_eq_true rfl) hR hrc hrs ⟨Nat.le_of_ble_eq_true rfl, Nat.le_of_ble_eq_true rfl⟩ dL_part_5 (fun r g1 H locs hP hS hp => ?_)
  obtain ⟨hr1, hT2, hF⟩ := hp
  subst hr1
  have hO3 := (hF 230 (by unfold zCl; omega)).trans hO2
  refine lv_i2l (v := r.toInt64) hx hb dL_part_8 rfl ?_
  refine z_last C0 hP hS hO1 hO3 (zIx_of nI_0.symm (by decide) (by decide)) dL_part_9 (fun H locs hP hS => ?_)
  refine lv_goto (tgt := 21) hx hb dL_part_10 (by decide) ?_
  refine lv_iconst (v := 0) hx hb dL_part_21 (by decide) ?_
  exact z_iret C0 hP hS hr ⟨rfl, hT2.kept (P := fun z => z = 230) (zFr.up zFr.rf rfl) (fun z h q => by subst q; unfold zCl at h; omega), ⟨_, ⟨hO1, _, va_up_self _ _ _, if_pos rfl⟩, fun _ => rfl⟩, (hF.mono (fun z h => Or.inl h)).up (Or.inr rfl)⟩ dL_part_22
set_option maxHeartbeats 1000000 in
theorem wx1_part (l : Launch) {D : va_G} {cy : Nat → ClassId} {K : Nat} {ad : Nat → Nat} {g : Nat → va_E} (sz : Nat) {p0 p1 : Int32} {rm : Room} {v : Int32} {w : Int64} {C C2 : zCR} (hT : cT cy K ad g C) (hO : oV cy K g w) (hrc : rm.cells = 1) (hrs : rm.slots = 6) (hR : rm.frames + 1 ≤ 20 ∧ 8 + (4 + 11) + rm.locals ≤ 440) (hM : ∀ sz, zXMr l yX4_part cX4_part 4 (some .int) rm [.ref (ad 0), .int p0, .int p1] D cy K ad g sz zIOB (fun g1 => cT cy K ad g1 C2 ∧ zFr zCl g g1)) : wM l yL_part cL_part 5 [(0, 10, 13, 13), (0, 10, 17, 15)] [.ref (ad 0), .int p0, .int p1, .ref (ad 230)] D cy K ad g sz 1 v C2 := by
  refine z_metW (by decide) (Nat.le_of_ble_eq_true rfl) (fun p e s m below meth c ls hsz hl C0 htab hTh hN hr hP hS => ?_)
  subst hsz
  have hl : lv_has ls 5 [(0, .ref (ad 0)), (1, .int p0), (2, .int p1), (3, .ref (ad 230))] := hl
  have hx := C0.1; have hb := C0.2.1; have hts := C0.2.2.2.2.1
  obtain ⟨hO1, f, hO2, hO3⟩ := hO
  obtain ⟨fs, hfs⟩ := hT.rc
  refine lv_aload_n hx hb dL_part_0 rfl (lv_at hl 3 rfl) ?_
  refine lv_iconst (v := 0) hx hb dL_part_1 (by decide) ?_
  refine lv_aload_n hx hb dL_part_2 rfl (lv_at hl 0 rfl) ?_
  refine lv_iload_n hx hb dL_part_3 rfl (lv_at hl 1 rfl) ?_
  refine lv_iload_n hx hb dL_part_4 rfl (lv_at hl 2 rfl) ?_
  refine z_thrownr C0 hP hS (z_runVXr (As := [.int p0, .int p1]) (rest := [.int 0, .ref (ad 230)]) C0 hTh hP hS hl.1 (hM _) lk_L_61 hT.n0 hfs rfl rfl (Nat.le_of_ble_eq_true rfl) hrc hrs hR ⟨Nat.le_of_ble_eq_true rfl, Nat.le_of_ble_eq_true rfl⟩ dL_part_5) (fun g1 ce q9 H locs hp hP hS hce hcv hcl => ?_)
  obtain ⟨hT2, hF⟩ := hp
  refine vx_catch (own := RL) (name := zIOB) (E := zIOB) C0.2.2.2.1 [] ⟨0, 10, 13, 13⟩ [⟨0, 10, 17, 15⟩] htab (fun z hz => absurd hz List.not_mem_nil) (by decide) (by decide) (hts _ q565) ((hTh.2.2.1 zIOB (by simp [zEs])).use rfl) hce hcv hcl ?_
  refine lv_astore (lv' := [(4, .ref q9), (0, .ref (ad 0)), (1, .int p0), (2, .int p1), (3, .ref (ad 230))]) hx hb dL_part_13 hl (by decide) rfl (fun ls hl => ?_)
  refine lv_iconst (v := 1) hx hb dL_part_15 (by decide) ?_
  exact z_iret C0 hP hS hr ⟨rfl, hT2, ⟨_, ⟨hO1, f, (hF 230 (by unfold zCl; omega)).trans hO2, hO3⟩, fun h => absurd h (by decide)⟩, hF.mono (fun z h => Or.inl h)⟩ dL_part_16
set_option maxHeartbeats 1000000 in
theorem wx2_part (l : Launch) {D : va_G} {cy : Nat → ClassId} {K : Nat} {ad : Nat → Nat} {g : Nat → va_E} (sz : Nat) {p0 p1 : Int32} {rm : Room} {v : Int32} {w : Int64} {C C2 : zCR} (hT : cT cy K ad g C) (hO : oV cy K g w) (hrc : rm.cells = 1) (hrs : rm.slots = 6) (hR : rm.frames + 1 ≤ 20 ∧ 8 + (4 + 11) + rm.locals ≤ 440) (hM : ∀ sz, zXMr l yX4_part cX4_part 4 (some .int) rm [.ref (ad 0), .int p0, .int p1] D cy K ad g sz zIAE (fun g1 => cT cy K ad g1 C2 ∧ zFr zCl g g1)) : wM l yL_part cL_part 5 [(0, 10, 13, 13), (0, 10, 17, 15)] [.ref (ad 0), .int p0, .int p1, .ref (ad 230)] D cy K ad g sz 2 v C2 := by
  refine z_metW (by decide) (Nat.le_of_ble_eq_true rfl) (fun p e s m below meth c ls hsz hl C0 htab hTh hN hr hP hS => ?_)
  subst hsz
  have hl : lv_has ls 5 [(0, .ref (ad 0)), (1, .int p0), (2, .int p1), (3, .ref (ad 230))] := hl
  have hx := C0.1; have hb := C0.2.1; have hts := C0.2.2.2.2.1
  obtain ⟨hO1, f, hO2, hO3⟩ := hO
  obtain ⟨fs, hfs⟩ := hT.rc
  refine lv_aload_n hx hb dL_part_0 rfl (lv_at hl 3 rfl) ?_
  refine lv_iconst (v := 0) hx hb dL_part_1 (by decide) ?_
  refine lv_aload_n hx hb dL_part_2 rfl (lv_at hl 0 rfl) ?_
  refine lv_iload_n hx hb dL_part_3 rfl (lv_at hl 1 rfl) ?_
  refine lv_iload_n hx hb dL_part_4 rfl (lv_at hl 2 rfl) ?_
  refine z_thrownr C0 hP hS (z_runVXr (As := [.int p0, .int p1]) (rest := [.int 0, .ref (ad 230)]) C0 hTh hP hS hl.1 (hM _) lk_L_61 hT.n0 hfs rfl rfl (Nat.le_of_ble_eq_true rfl) hrc hrs hR ⟨Nat.le_of_ble_eq_true rfl, Nat.le_of_ble_eq_true rfl⟩ dL_part_5) (fun g1 ce q9 H locs hp hP hS hce hcv hcl => ?_)
  obtain ⟨hT2, hF⟩ := hp
  refine vx_catch (own := RL) (name := zIAE) (E := zIAE) C0.2.2.2.1 [⟨0, 10, 13, 13⟩] ⟨0, 10, 17, 15⟩ [] htab (fun z hz => by rw [List.mem_singleton.mp hz]; exact Or.inr ⟨by decide, zIOB, hts _ q565, hN.1⟩) (by decide) (by decide) (hts _ q566) ((hTh.2.2.1 zIAE (by simp [zEs])).use rfl) hce hcv hcl ?_
  refine lv_astore (lv' := [(4, .ref q9), (0, .ref (ad 0)), (1, .int p0), (2, .int p1), (3, .ref (ad 230))]) hx hb dL_part_17 hl (by decide) rfl (fun ls hl => ?_)
  refine lv_iconst (v := 2) hx hb dL_part_19 (by decide) ?_
  exact z_iret C0 hP hS hr ⟨rfl, hT2, ⟨_, ⟨hO1, f, (hF 230 (by unfold zCl; omega)).trans hO2, hO3⟩, fun h => absurd h (by decide)⟩, hF.mono (fun z h => Or.inl h)⟩ dL_part_20
theorem lh_count : zLh RL 145 yL_count cL_count 4 (some .int) [(0, 9, 12, 15)] 3 := zLh.of q746 q747 q51 q748 (by decide +kernel)
set_option maxHeartbeats 1000000 in
theorem wok_count (l : Launch) {D : va_G} {cy : Nat → ClassId} {K : Nat} {ad : Nat → Nat} {g : Nat → va_E} (sz : Nat) {p0 : Int32} {rm : Room} {v : Int32} {w : Int64} {C C2 : zCR} (hT : cT cy K ad g C) (hO : oV cy K g w) (hrc : rm.cells = 0) (hrs : rm.slots = 0) (hR : rm.frames + 1 ≤ 20 ∧ 8 + (2 + 11) + rm.locals ≤ 440) (hM : ∀ sz, Met l yX4_count (zs yX4_count cX4_count 2 (some .int)) rm (va_Pc [.ref (ad 0), .int p0] (zIn D cy K ad g sz)) (va_Qi (fun r g1 => r = v ∧ cT cy K ad g1 C2 ∧ zFr zCl g g1) (zOut D cy K ad sz) (zA K ad sz)) 0 0 (zA K ad sz)) : wM l yL_count cL_count 4 [(0, 9, 12, 15)] [.ref (ad 0), .int p0, .ref (ad 230)] D cy K ad g sz 0 v C2 := by
  refine z_metW (by decide) (Nat.le_of_ble_eq_true rfl) (fun p e s m below meth c ls hsz hl C0 htab hTh hN hr hP hS => ?_)
  subst hsz
  have hl : lv_has ls 4 [(0, .ref (ad 0)), (1, .int p0), (2, .ref (ad 230))] := hl
  have hx := C0.1; have hb := C0.2.1; have hts := C0.2.2.2.2.1
  obtain ⟨hO1, f, hO2, hO3⟩ := hO
  obtain ⟨fs, hfs⟩ := hT.rc
  refine W.widen (k := 1) (n := 6) (Nat.zero_le _) (Nat.zero_le _) ?_
  refine lv_aload_n hx hb dL_count_0 rfl (lv_at hl 2 rfl) ?_
  refine lv_iconst (v := 0) hx hb dL_count_1 (by decide) ?_
  refine lv_aload_n hx hb dL_count_2 rfl (lv_at hl 0 rfl) ?_
  refine lv_iload_n hx hb dL_count_3 rfl (lv_at hl 1 rfl) ?_
  refine z_Vi_mo (As := [.int p0]) (rest := [.int 0, .ref (ad 230)]) C0 hP hS hl.1 (hM _) lk_L_64 hT.n0 hfs rfl rfl (Nat.le_of_ble_eq_true rfl) hR hrc hrs ⟨Nat.le_of_ble_eq_true rfl, Nat.le_of_ble_eq_true rfl⟩ dL_count_4 (fun r g1 H locs hP hS hp => ?_)
  obtain ⟨hr1, hT2, hF⟩ := hp
  subst hr1
  have hO3 := (hF 230 (by unfold zCl; omega)).trans hO2
  refine lv_i2l (v := r.toInt64) hx hb dL_count_7 rfl ?_
  refine z_last C0 hP hS hO1 hO3 (zIx_of nI_0.symm (by decide) (by decide)) dL_count_8 (fun H locs hP hS => ?_)
  refine lv_goto (tgt := 15) hx hb dL_count_9 (by decide) ?_
  refine lv_iconst (v := 0) hx hb dL_count_15 (by decide) ?_
  exact z_iret C0 hP hS hr ⟨rfl, hT2.kept (P := fun z => z = 230) (zFr.up zFr.rf rfl) (fun z h q => by subst q; unfold zCl at h; omega), ⟨_, ⟨hO1, _, va_up_self _ _ _, if_pos rfl⟩, fun _ => rfl⟩, (hF.mono (fun z h => Or.inl h)).up (Or.inr rfl)⟩ dL_count_16
set_option maxHeartbeats 1000000 in
theorem wx1_count (l : Launch) {D : va_G} {cy : Nat → ClassId} {K : Nat} {ad : Nat → Nat} {g : Nat → va_E} (sz : Nat) {p0 : Int32} {rm : Room} {v : Int32} {w : Int64} {C C2 : zCR} (hT : cT cy K ad g C) (hO : oV cy K g w) (hrc : rm.cells = 1) (hrs : rm.slots = 6) (hR : rm.frames + 1 ≤ 20 ∧ 8 + (2 + 11) + rm.locals ≤ 440) (hM : ∀ sz, zXMr l yX4_count cX4_count 2 (some .int) rm [.ref (ad 0), .int p0] D cy K ad g sz zIAE (fun g1 => cT cy K ad g1 C2 ∧ zFr zCl g g1)) : wM l yL_count cL_count 4 [(0, 9, 12, 15)] [.ref (ad 0), .int p0, .ref (ad 230)] D cy K ad g sz 1 v C2 := by
  refine z_metW (by decide) (Nat.le_of_ble_eq_true rfl) (fun p e s m below meth c ls hsz hl C0 htab hTh hN hr hP hS => ?_)
  subst hsz
  have hl : lv_has ls 4 [(0, .ref (ad 0)), (1, .int p0), (2, .ref (ad 230))] := hl
  have hx := C0.1; have hb := C0.2.1; have hts := C0.2.2.2.2.1
  obtain ⟨hO1, f, hO2, hO3⟩ := hO
  obtain ⟨fs, hfs⟩ := hT.rc
  refine lv_aload_n hx hb dL_count_0 rfl (lv_at hl 2 rfl) ?_
  refine lv_iconst (v := 0) hx hb dL_count_1 (by decide) ?_
  refine lv_aload_n hx hb dL_count_2 rfl (lv_at hl 0 rfl) ?_
  refine lv_iload_n hx hb dL_count_3 rfl (lv_at hl 1 rfl) ?_
  refine z_thrownr C0 hP hS (z_runVXr (As := [.int p0]) (rest := [.int 0, .ref (ad 230)]) C0 hTh hP hS hl.1 (hM _) lk_L_64 hT.n0 hfs rfl rfl (Nat.le_of_ble_eq_true rfl) hrc hrs hR ⟨Nat.le_of_ble_eq_true rfl, Nat.le_of_ble_eq_true rfl⟩ dL_count_4) (fun g1 ce q9 H locs hp hP hS hce hcv hcl => ?_)
  obtain ⟨hT2, hF⟩ := hp
  refine vx_catch (own := RL) (name := zIAE) (E := zIAE) C0.2.2.2.1 [] ⟨0, 9, 12, 15⟩ [] htab (fun z hz => absurd hz List.not_mem_nil) (by decide) (by decide) (hts _ q566) ((hTh.2.2.1 zIAE (by simp [zEs])).use rfl) hce hcv hcl ?_
  refine lv_astore_n (lv' := [(3, .ref q9), (0, .ref (ad 0)), (1, .int p0), (2, .ref (ad 230))]) hx hb dL_count_12 rfl hl (by decide) rfl (fun ls hl => ?_)
  refine lv_iconst (v := 1) hx hb dL_count_13 (by decide) ?_
  exact z_iret C0 hP hS hr ⟨rfl, hT2, ⟨_, ⟨hO1, f, (hF 230 (by unfold zCl; omega)).trans hO2, hO3⟩, fun h => absurd h (by decide)⟩, hF.mono (fun z h => Or.inl h)⟩ dL_count_14
theorem lh_byHue : zLh RL 148 yL_byHue cL_byHue 4 (some .int) [(0, 9, 12, 15)] 3 := zLh.of q750 q751 q51 q752 (by decide +kernel)
set_option maxHeartbeats 1000000 in
theorem wok_byHue (l : Launch) {D : va_G} {cy : Nat → ClassId} {K : Nat} {ad : Nat → Nat} {g : Nat → va_E} (sz : Nat) {p0 : Int32} {rm : Room} {v : Int32} {w : Int64} {C C2 : zCR} (hT : cT cy K ad g C) (hO : oV cy K g w) (hrc : rm.cells = 0) (hrs : rm.slots = 0) (hR : rm.frames + 1 ≤ 20 ∧ 8 + (2 + 11) + rm.locals ≤ 440) (hM : ∀ sz, Met l yX4_byHue (zs yX4_byHue cX4_byHue 2 (some .int)) rm (va_Pc [.ref (ad 0), .int p0] (zIn D cy K ad g sz)) (va_Qi (fun r g1 => r = v ∧ cT cy K ad g1 C2 ∧ zFr zCl g g1) (zOut D cy K ad sz) (zA K ad sz)) 0 0 (zA K ad sz)) : wM l yL_byHue cL_byHue 4 [(0, 9, 12, 15)] [.ref (ad 0), .int p0, .ref (ad 230)] D cy K ad g sz 0 v C2 := by
  refine z_metW (by decide) (Nat.le_of_ble_eq_true rfl) (fun p e s m below meth c ls hsz hl C0 htab hTh hN hr hP hS => ?_)
  subst hsz
  have hl : lv_has ls 4 [(0, .ref (ad 0)), (1, .int p0), (2, .ref (ad 230))] := hl
  have hx := C0.1; have hb := C0.2.1; have hts := C0.2.2.2.2.1
  obtain ⟨hO1, f, hO2, hO3⟩ := hO
  obtain ⟨fs, hfs⟩ := hT.rc
  refine W.widen (k := 1) (n := 6) (Nat.zero_le _) (Nat.zero_le _) ?_
  refine lv_aload_n hx hb dL_byHue_0 rfl (lv_at hl 2 rfl) ?_
  refine lv_iconst (v := 0) hx hb dL_byHue_1 (by decide) ?_
  refine lv_aload_n hx hb dL_byHue_2 rfl (lv_at hl 0 rfl) ?_
  refine lv_iload_n hx hb dL_byHue_3 rfl (lv_at hl 1 rfl) ?_
  refine z_Vi_mo (As := [.int p0]) (rest := [.int 0, .ref (ad 230)]) C0 hP hS hl.1 (hM _) lk_L_67 hT.n0 hfs rfl rfl (Nat.le_of_ble_eq_true rfl) hR hrc hrs ⟨Nat.le_of_ble_eq_true rfl, Nat.le_of_ble_eq_true rfl⟩ dL_byHue_4 (fun r g1 H locs hP hS hp => ?_)
  obtain ⟨hr1, hT2, hF⟩ := hp
  subst hr1
  have hO3 := (hF 230 (by unfold zCl; omega)).trans hO2
  refine lv_i2l (v := r.toInt64) hx hb dL_byHue_7 rfl ?_
  refine z_last C0 hP hS hO1 hO3 (zIx_of nI_0.symm (by decide) (by decide)) dL_byHue_8 (fun H locs hP hS => ?_)
  refine lv_goto (tgt := 15) hx hb dL_byHue_9 (by decide) ?_
  refine lv_iconst (v := 0) hx hb dL_byHue_15 (by decide) ?_
  exact z_iret C0 hP hS hr ⟨rfl, hT2.kept (P := fun z => z = 230) (zFr.up zFr.rf rfl) (fun z h q => by subst q; unfold zCl at h; omega), ⟨_, ⟨hO1, _, va_up_self _ _ _, if_pos rfl⟩, fun _ => rfl⟩, (hF.mono (fun z h => Or.inl h)).up (Or.inr rfl)⟩ dL_byHue_16
set_option maxHeartbeats 1000000 in
theorem wx1_byHue (l : Launch) {D : va_G} {cy : Nat → ClassId} {K : Nat} {ad : Nat → Nat} {g : Nat → va_E} (sz : Nat) {p0 : Int32} {rm : Room} {v : Int32} {w : Int64} {C C2 : zCR} (hT : cT cy K ad g C) (hO : oV cy K g w) (hrc : rm.cells = 1) (hrs : rm.slots = 6) (hR : rm.frames + 1 ≤ 20 ∧ 8 + (2 + 11) + rm.locals ≤ 440) (hM : ∀ sz, zXMr l yX4_byHue cX4_byHue 2 (some .int) rm [.ref (ad 0), .int p0] D cy K ad g sz zIAE (fun g1 => cT cy K ad g1 C2 ∧ zFr zCl g g1)) : wM l yL_byHue cL_byHue 4 [(0, 9, 12, 15)] [.ref (ad 0), .int p0, .ref (ad 230)] D cy K ad g sz 1 v C2 := by
  refine z_metW (by decide) (Nat.le_of_ble_eq_true rfl) (fun p e s m below meth c ls hsz hl C0 htab hTh hN hr hP hS => ?_)
  subst hsz
  have hl : lv_has ls 4 [(0, .ref (ad 0)), (1, .int p0), (2, .ref (ad 230))] := hl
  have hx := C0.1; have hb := C0.2.1; have hts := C0.2.2.2.2.1
  obtain ⟨hO1, f, hO2, hO3⟩ := hO
  obtain ⟨fs, hfs⟩ := hT.rc
  refine lv_aload_n hx hb dL_byHue_0 rfl (lv_at hl 2 rfl) ?_
  refine lv_iconst (v := 0) hx hb dL_byHue_1 (by decide) ?_
  refine lv_aload_n hx hb dL_byHue_2 rfl (lv_at hl 0 rfl) ?_
  refine lv_iload_n hx hb dL_byHue_3 rfl (lv_at hl 1 rfl) ?_
  refine z_thrownr C0 hP hS (z_runVXr (As := [.int p0]) (rest := [.int 0, .ref (ad 230)]) C0 hTh hP hS hl.1 (hM _) lk_L_67 hT.n0 hfs rfl rfl (Nat.le_of_ble_eq_true rfl) hrc hrs hR ⟨Nat.le_of_ble_eq_true rfl, Nat.le_of_ble_eq_true rfl⟩ dL_byHue_4) (fun g1 ce q9 H locs hp hP hS hce hcv hcl => ?_)
  obtain ⟨hT2, hF⟩ := hp
  refine vx_catch (own := RL) (name := zIAE) (E := zIAE) C0.2.2.2.1 [] ⟨0, 9, 12, 15⟩ [] htab (fun z hz => absurd hz List.not_mem_nil) (by decide) (by decide) (hts _ q566) ((hTh.2.2.1 zIAE (by simp [zEs])).use rfl) hce hcv hcl ?_
  refine lv_astore_n (lv' := [(3, .ref q9), (0, .ref (ad 0)), (1, .int p0), (2, .ref (ad 230))]) hx hb dL_byHue_12 rfl hl (by decide) rfl (fun ls hl => ?_)
  refine lv_iconst (v := 1) hx hb dL_byHue_13 (by decide) ?_
  exact z_iret C0 hP hS hr ⟨rfl, hT2, ⟨_, ⟨hO1, f, (hF 230 (by unfold zCl; omega)).trans hO2, hO3⟩, fun h => absurd h (by decide)⟩, hF.mono (fun z h => Or.inl h)⟩ dL_byHue_14
theorem lh_whyNot : zLh RL 151 yL_whyNot cL_whyNot 5 (some .int) [(0, 10, 13, 13), (0, 10, 17, 15)] 4 := zLh.of q754 q755 q51 q756 (by decide +kernel)
set_option maxHeartbeats 1000000 in
theorem wok_whyNot (l : Launch) {D : va_G} {cy : Nat → ClassId} {K : Nat} {ad : Nat → Nat} {g : Nat → va_E} (sz : Nat) {p0 p1 : Int32} {rm : Room} {v : Int32} {w : Int64} {C C2 : zCR} (hT : cT cy K ad g C) (hO : oV cy K g w) (hrc : rm.cells = 0) (hrs : rm.slots = 0) (hR : rm.frames + 1 ≤ 20 ∧ 8 + (4 + 11) + rm.locals ≤ 440) (hM : ∀ sz, Met l yX4_whyNot (zs yX4_whyNot cX4_whyNot 4 (some .int)) rm (va_Pc [.ref (ad 0), .int p0, .int p1] (zIn D cy K ad g sz)) (va_Qi (fun r g1 => r = v ∧ cT cy K ad g1 C2 ∧ zFr zCl g g1) (zOut D cy K ad sz) (zA K ad sz)) 0 0 (zA K ad sz)) : wM l yL_whyNot cL_whyNot 5 [(0, 10, 13, 13), (0, 10, 17, 15)] [.ref (ad 0), .int p0, .int p1, .ref (ad 230)] D cy K ad g sz 0 v C2 := by
  refine z_metW (by decide) (Nat.le_of_ble_eq_true rfl) (fun p e s m below meth c ls hsz hl C0 htab hTh hN hr hP hS => ?_)
  subst hsz
  have hl : lv_has ls 5 [(0, .ref (ad 0)), (1, .int p0), (2, .int p1), (3, .ref (ad 230))] := hl
  have hx := C0.1; have hb := C0.2.1; have hts := C0.2.2.2.2.1
  obtain ⟨hO1, f, hO2, hO3⟩ := hO
  obtain ⟨fs, hfs⟩ := hT.rc
  refine W.widen (k := 1) (n := 6) (Nat.zero_le _) (Nat.zero_le _) ?_
  refine lv_aload_n hx hb dL_whyNot_0 rfl (lv_at hl 3 rfl) ?_
  refine lv_iconst (v := 0) hx hb dL_whyNot_1 (by decide) ?_
  refine lv_aload_n hx hb dL_whyNot_2 rfl (lv_at hl 0 rfl) ?_
  refine lv_iload_n hx hb dL_whyNot_3 rfl (lv_at hl 1 rfl) ?_
  refine lv_iload_n hx hb dL_whyNot_4 rfl (lv_at hl 2 rfl) ?_
  refine z_Vi_mo (As := [.int p0, .int p1]) (rest := [.int 0, .ref (ad 230)]) C0 hP hS hl.1 (hM _) lk_L_70 hT.n0 hfs rfl rfl (Nat.le_of_ble_eq_true rfl) hR hrc hrs ⟨Nat.le_of_ble_eq_true rfl, Nat.le_of_ble_eq_true rfl⟩ dL_whyNot_5 (fun r g1 H locs hP hS hp => ?_)
  obtain ⟨hr1, hT2, hF⟩ := hp
  subst hr1
  have hO3 := (hF 230 (by unfold zCl; omega)).trans hO2
  refine lv_i2l (v := r.toInt64) hx hb dL_whyNot_8 rfl ?_
  refine z_last C0 hP hS hO1 hO3 (zIx_of nI_0.symm (by decide) (by decide)) dL_whyNot_9 (fun H locs hP hS => ?_)
  refine lv_goto (tgt := 21) hx hb dL_whyNot_10 (by decide) ?_
  refine lv_iconst (v := 0) hx hb dL_whyNot_21 (by decide) ?_
  exact z_iret C0 hP hS hr ⟨rfl, hT2.kept (P := fun z => z = 230) (zFr.up zFr.rf rfl) (fun z h q => by subst q; unfold zCl at h; omega), ⟨_, ⟨hO1, _, va_up_self _ _ _, if_pos rfl⟩, fun _ => rfl⟩, (hF.mono (fun z h => Or.inl h)).up (Or.inr rfl)⟩ dL_whyNot_22
set_option maxHeartbeats 1000000 in
theorem wx1_whyNot (l : Launch) {D : va_G} {cy : Nat → ClassId} {K : Nat} {ad : Nat → Nat} {g : Nat → va_E} (sz : Nat) {p0 p1 : Int32} {rm : Room} {v : Int32} {w : Int64} {C C2 : zCR} (hT : cT cy K ad g C) (hO : oV cy K g w) (hrc : rm.cells = 1) (hrs : rm.slots = 6) (hR : rm.frames + 1 ≤ 20 ∧ 8 + (4 + 11) + rm.locals ≤ 440) (hM : ∀ sz, zXMr l yX4_whyNot cX4_whyNot 4 (some .int) rm [.ref (ad 0), .int p0, .int p1] D cy K ad g sz zIOB (fun g1 => cT cy K ad g1 C2 ∧ zFr zCl g g1)) : wM l yL_whyNot cL_whyNot 5 [(0, 10, 13, 13), (0, 10, 17, 15)] [.ref (ad 0), .int p0, .int p1, .ref (ad 230)] D cy K ad g sz 1 v C2 := by
  refine z_metW (by decide) (Nat.le_of_ble_eq_true rfl) (fun p e s m below meth c ls hsz hl C0 htab hTh hN hr hP hS => ?_)
  subst hsz
  have hl : lv_has ls 5 [(0, .ref (ad 0)), (1, .int p0), (2, .int p1), (3, .ref (ad 230))] := hl
  have hx := C0.1; have hb := C0.2.1; have hts := C0.2.2.2.2.1
  obtain ⟨hO1, f, hO2, hO3⟩ := hO
  obtain ⟨fs, hfs⟩ := hT.rc
  refine lv_aload_n hx hb dL_whyNot_0 rfl (lv_at hl 3 rfl) ?_
  refine lv_iconst (v := 0) hx hb dL_whyNot_1 (by decide) ?_
  refine lv_aload_n hx hb dL_whyNot_2 rfl (lv_at hl 0 rfl) ?_
  refine lv_iload_n hx hb dL_whyNot_3 rfl (lv_at hl 1 rfl) ?_
  refine lv_iload_n hx hb dL_whyNot_4 rfl (lv_at hl 2 rfl) ?_
  refine z_thrownr C0 hP hS (z_runVXr (As := [.int p0, .int p1]) (rest := [.int 0, .ref (ad 230)]) C0 hTh hP hS hl.1 (hM _) lk_L_70 hT.n0 hfs rfl rfl (Nat.le_of_ble_eq_true rfl) hrc hrs hR ⟨Nat.le_of_ble_eq_true rfl, Nat.le_of_ble_eq_true rfl⟩ dL_whyNot_5) (fun g1 ce q9 H locs hp hP hS hce hcv hcl => ?_)
  obtain ⟨hT2, hF⟩ := hp
  refine vx_catch (own := RL) (name := zIOB) (E := zIOB) C0.2.2.2.1 [] ⟨0, 10, 13, 13⟩ [⟨0, 10, 17, 15⟩] htab (fun z hz => absurd hz List.not_mem_nil) (by decide) (by decide) (hts _ q565) ((hTh.2.2.1 zIOB (by simp [zEs])).use rfl) hce hcv hcl ?_
  refine lv_astore (lv' := [(4, .ref q9), (0, .ref (ad 0)), (1, .int p0), (2, .int p1), (3, .ref (ad 230))]) hx hb dL_whyNot_13 hl (by decide) rfl (fun ls hl => ?_)
  refine lv_iconst (v := 1) hx hb dL_whyNot_15 (by decide) ?_
  exact z_iret C0 hP hS hr ⟨rfl, hT2, ⟨_, ⟨hO1, f, (hF 230 (by unfold zCl; omega)).trans hO2, hO3⟩, fun h => absurd h (by decide)⟩, hF.mono (fun z h => Or.inl h)⟩ dL_whyNot_16
set_option maxHeartbeats 1000000 in
theorem wx2_whyNot (l : Launch) {D : va_G} {cy : Nat → ClassId} {K : Nat} {ad : Nat → Nat} {g : Nat → va_E} (sz : Nat) {p0 p1 : Int32} {rm : Room} {v : Int32} {w : Int64} {C C2 : zCR} (hT : cT cy K ad g C) (hO : oV cy K g w) (hrc : rm.cells = 1) (hrs : rm.slots = 6) (hR : rm.frames + 1 ≤ 20 ∧ 8 + (4 + 11) + rm.locals ≤ 440) (hM : ∀ sz, zXMr l yX4_whyNot cX4_whyNot 4 (some .int) rm [.ref (ad 0), .int p0, .int p1] D cy K ad g sz zIAE (fun g1 => cT cy K ad g1 C2 ∧ zFr zCl g g1)) : wM l yL_whyNot cL_whyNot 5 [(0, 10, 13, 13), (0, 10, 17, 15)] [.ref (ad 0), .int p0, .int p1, .ref (ad 230)] D cy K ad g sz 2 v C2 := by
  refine z_metW (by decide) (Nat.le_of_ble_eq_true rfl) (fun p e s m below meth c ls hsz hl C0 htab hTh hN hr hP hS => ?_)
  subst hsz
  have hl : lv_has ls 5 [(0, .ref (ad 0)), (1, .int p0), (2, .int p1), (3, .ref (ad 230))] := hl
  have hx := C0.1; have hb := C0.2.1; have hts := C0.2.2.2.2.1
  obtain ⟨hO1, f, hO2, hO3⟩ := hO
  obtain ⟨fs, hfs⟩ := hT.rc
  refine lv_aload_n hx hb dL_whyNot_0 rfl (lv_at hl 3 rfl) ?_
  refine lv_iconst (v := 0) hx hb dL_whyNot_1 (by decide) ?_
  refine lv_aload_n hx hb dL_whyNot_2 rfl (lv_at hl 0 rfl) ?_
  refine lv_iload_n hx hb dL_whyNot_3 rfl (lv_at hl 1 rfl) ?_
  refine lv_iload_n hx hb dL_whyNot_4 rfl (lv_at hl 2 rfl) ?_
  refine z_thrownr C0 hP hS (z_runVXr (As := [.int p0, .int p1]) (rest := [.int 0, .ref (ad 230)]) C0 hTh hP hS hl.1 (hM _) lk_L_70 hT.n0 hfs rfl rfl (Nat.le_of_ble_eq_true rfl) hrc hrs hR ⟨Nat.le_of_ble_eq_true rfl, Nat.le_of_ble_eq_true rfl⟩ dL_whyNot_5) (fun g1 ce q9 H locs hp hP hS hce hcv hcl => ?_)
  obtain ⟨hT2, hF⟩ := hp
  refine vx_catch (own := RL) (name := zIAE) (E := zIAE) C0.2.2.2.1 [⟨0, 10, 13, 13⟩] ⟨0, 10, 17, 15⟩ [] htab (fun z hz => by rw [List.mem_singleton.mp hz]; exact Or.inr ⟨by decide, zIOB, hts _ q565, hN.1⟩) (by decide) (by decide) (hts _ q566) ((hTh.2.2.1 zIAE (by simp [zEs])).use rfl) hce hcv hcl ?_
  refine lv_astore (lv' := [(4, .ref q9), (0, .ref (ad 0)), (1, .int p0), (2, .int p1), (3, .ref (ad 230))]) hx hb dL_whyNot_17 hl (by decide) rfl (fun ls hl => ?_)
  refine lv_iconst (v := 2) hx hb dL_whyNot_19 (by decide) ?_
  exact z_iret C0 hP hS hr ⟨rfl, hT2, ⟨_, ⟨hO1, f, (hF 230 (by unfold zCl; omega)).trans hO2, hO3⟩, fun h => absurd h (by decide)⟩, hF.mono (fun z h => Or.inl h)⟩ dL_whyNot_20
theorem lh_howOften : zLh RL 154 yL_howOften cL_howOften 5 (some .int) [(0, 10, 13, 13), (0, 10, 17, 15)] 4 := zLh.of q758 q759 q51 q760 (by decide +kernel)
set_option maxHeartbeats 1000000 in
theorem wok_howOften (l : Launch) {D : va_G} {cy : Nat → ClassId} {K : Nat} {ad : Nat → Nat} {g : Nat → va_E} (sz : Nat) {p0 p1 : Int32} {rm : Room} {v : Int32} {w : Int64} {C C2 : zCR} (hT : cT cy K ad g C) (hO : oV cy K g w) (hrc : rm.cells = 0) (hrs : rm.slots = 0) (hR : rm.frames + 1 ≤ 20 ∧ 8 + (5 + 11) + rm.locals ≤ 440) (hM : ∀ sz, Met l yX4_howOften (zs yX4_howOften cX4_howOften 5 (some .int)) rm (va_Pc [.ref (ad 0), .int p0, .int p1] (zIn D cy K ad g sz)) (va_Qi (fun r g1 => r = v ∧ cT cy K ad g1 C2 ∧ zFr zCl g g1) (zOut D cy K ad sz) (zA K ad sz)) 0 0 (zA K ad sz)) : wM l yL_howOften cL_howOften 5 [(0, 10, 13, 13), (0, 10, 17, 15)] [.ref (ad 0), .int p0, .int p1, .ref (ad 230)] D cy K ad g sz 0 v C2 := by
  refine z_metW (by decide) (Nat.le_of_ble_eq_true rfl) (fun p e s m below meth c ls hsz hl C0 htab hTh hN hr hP hS => ?_)
  subst hsz
  have hl : lv_has ls 5 [(0, .ref (ad 0)), (1, .int p0), (2, .int p1), (3, .ref (ad 230))] := hl
  have hx := C0.1; have hb := C0.2.1; have hts := C0.2.2.2.2.1
  obtain ⟨hO1, f, hO2, hO3⟩ := hO
  obtain ⟨fs, hfs⟩ := hT.rc
  refine W.widen (k := 1) (n := 6) (Nat.zero_le _) (Nat.zero_le _) ?_
  refine lv_aload_n hx hb dL_howOften_0 rfl (lv_at hl 3 rfl) ?_
  refine lv_iconst (v := 0) hx hb dL_howOften_1 (by decide) ?_
  refine lv_aload_n hx hb dL_howOften_2 rfl (lv_at hl 0 rfl) ?_
  refine lv_iload_n hx hb dL_howOften_3 rfl (lv_at hl 1 rfl) ?_
  refine lv_iload_n hx hb dL_howOften_4 rfl (lv_at hl 2 rfl) ?_
  refine z_Vi_mo (As := [.int p0, .int p1]) (rest := [.int 0, .ref (ad 230)]) C0 hP hS hl.1 (hM _) lk_L_73 hT.n0 hfs rfl rfl (Nat.le_of_ble_eq_true rfl) hR hrc hrs ⟨Nat.le_of_ble_eq_true rfl, Nat.le_of_ble_eq_true rfl⟩ dL_howOften_5 (fun r g1 H locs hP hS hp => ?_)
  obtain ⟨hr1, hT2, hF⟩ := hp
  subst hr1
  have hO3 := (hF 230 (by unfold zCl; omega)).trans hO2
  refine lv_i2l (v := r.toInt64) hx hb dL_howOften_8 rfl ?_
  refine z_last C0 hP hS hO1 hO3 (zIx_of nI_0.symm (by decide) (by decide)) dL_howOften_9 (fun H locs hP hS => ?_)
  refine lv_goto (tgt := 21) hx hb dL_howOften_10 (by decide) ?_
  refine lv_iconst (v := 0) hx hb dL_howOften_21 (by decide) ?_
  exact z_iret C0 hP hS hr ⟨rfl, hT2.kept (P := fun z => z = 230) (zFr.up zFr.rf rfl) (fun z h q => by subst q; unfold zCl at h; omega), ⟨_, ⟨hO1, _, va_up_self _ _ _, if_pos rfl⟩, fun _ => rfl⟩, (hF.mono (fun z h => Or.inl h)).up (Or.inr rfl)⟩ dL_howOften_22
set_option maxHeartbeats 1000000 in
theorem wx1_howOften (l : Launch) {D : va_G} {cy : Nat → ClassId} {K : Nat} {ad : Nat → Nat} {g : Nat → va_E} (sz : Nat) {p0 p1 : Int32} {rm : Room} {v : Int32} {w : Int64} {C C2 : zCR} (hT : cT cy K ad g C) (hO : oV cy K g w) (hrc : rm.cells = 1) (hrs : rm.slots = 6) (hR : rm.frames + 1 ≤ 20 ∧ 8 + (5 + 11) + rm.locals ≤ 440) (hM : ∀ sz, zXMr l yX4_howOften cX4_howOften 5 (some .int) rm [.ref (ad 0), .int p0, .int p1] D cy K ad g sz zIOB (fun g1 => cT cy K ad g1 C2 ∧ zFr zCl g g1)) : wM l yL_howOften cL_howOften 5 [(0, 10, 13, 13), (0, 10, 17, 15)] [.ref (ad 0), .int p0, .int p1, .ref (ad 230)] D cy K ad g sz 1 v C2 := by
  refine z_metW (by decide) (Nat.le_of_ble_eq_true rfl) (fun p e s m below meth c ls hsz hl C0 htab hTh hN hr hP hS => ?_)
  subst hsz
  have hl : lv_has ls 5 [(0, .ref (ad 0)), (1, .int p0), (2, .int p1), (3, .ref (ad 230))] := hl
  have hx := C0.1; have hb := C0.2.1; have hts := C0.2.2.2.2.1
  obtain ⟨hO1, f, hO2, hO3⟩ := hO
  obtain ⟨fs, hfs⟩ := hT.rc
  refine lv_aload_n hx hb dL_howOften_0 rfl (lv_at hl 3 rfl) ?_
  refine lv_iconst (v := 0) hx hb dL_howOften_1 (by decide) ?_
  refine lv_aload_n hx hb dL_howOften_2 rfl (lv_at hl 0 rfl) ?_
  refine lv_iload_n hx hb dL_howOften_3 rfl (lv_at hl 1 rfl) ?_
  refine lv_iload_n hx hb dL_howOften_4 rfl (lv_at hl 2 rfl) ?_
  refine z_thrownr C0 hP hS (z_runVXr (As := [.int p0, .int p1]) (rest := [.int 0, .ref (ad 230)]) C0 hTh hP hS hl.1 (hM _) lk_L_73 hT.n0 hfs rfl rfl (Nat.le_of_ble_eq_true rfl) hrc hrs hR ⟨Nat.le_of_ble_eq_true rfl, Nat.le_of_ble_eq_true rfl⟩ dL_howOften_5) (fun g1 ce q9 H locs hp hP hS hce hcv hcl => ?_)
  obtain ⟨hT2, hF⟩ := hp
  refine vx_catch (own := RL) (name := zIOB) (E := zIOB) C0.2.2.2.1 [] ⟨0, 10, 13, 13⟩ [⟨0, 10, 17, 15⟩] htab (fun z hz => absurd hz List.not_mem_nil) (by decide) (by decide) (hts _ q565) ((hTh.2.2.1 zIOB (by simp [zEs])).use rfl) hce hcv hcl ?_
  refine lv_astore (lv' := [(4, .ref q9), (0, .ref (ad 0)), (1, .int p0), (2, .int p1), (3, .ref (ad 230))]) hx hb dL_howOften_13 hl (by decide) rfl (fun ls hl => ?_)
  refine lv_iconst (v := 1) hx hb dL_howOften_15 (by decide) ?_
  exact z_iret C0 hP hS hr ⟨rfl, hT2, ⟨_, ⟨hO1, f, (hF 230 (by unfold zCl; omega)).trans hO2, hO3⟩, fun h => absurd h (by decide)⟩, hF.mono (fun z h => Or.inl h)⟩ dL_howOften_16
set_option maxHeartbeats 1000000 in
theorem wx2_howOften (l : Launch) {D : va_G} {cy : Nat → ClassId} {K : Nat} {ad : Nat → Nat} {g : Nat → va_E} (sz : Nat) {p0 p1 : Int32} {rm : Room} {v : Int32} {w : Int64} {C C2 : zCR} (hT : cT cy K ad g C) (hO : oV cy K g w) (hrc : rm.cells = 1) (hrs : rm.slots = 6) (hR : rm.frames + 1 ≤ 20 ∧ 8 + (5 + 11) + rm.locals ≤ 440) (hM : ∀ sz, zXMr l yX4_howOften cX4_howOften 5 (some .int) rm [.ref (ad 0), .int p0, .int p1] D cy K ad g sz zIAE (fun g1 => cT cy K ad g1 C2 ∧ zFr zCl g g1)) : wM l yL_howOften cL_howOften 5 [(0, 10, 13, 13), (0, 10, 17, 15)] [.ref (ad 0), .int p0, .int p1, .ref (ad 230)] D cy K ad g sz 2 v C2 := by
  refine z_metW (by decide) (Nat.le_of_ble_eq_true rfl) (fun p e s m below meth c ls hsz hl C0 htab hTh hN hr hP hS => ?_)
  subst hsz
  have hl : lv_has ls 5 [(0, .ref (ad 0)), (1, .int p0), (2, .int p1), (3, .ref (ad 230))] := hl
  have hx := C0.1; have hb := C0.2.1; have hts := C0.2.2.2.2.1
  obtain ⟨hO1, f, hO2, hO3⟩ := hO
  obtain ⟨fs, hfs⟩ := hT.rc
  refine lv_aload_n hx hb dL_howOften_0 rfl (lv_at hl 3 rfl) ?_
  refine lv_iconst (v := 0) hx hb dL_howOften_1 (by decide) ?_
  refine lv_aload_n hx hb dL_howOften_2 rfl (lv_at hl 0 rfl) ?_
  refine lv_iload_n hx hb dL_howOften_3 rfl (lv_at hl 1 rfl) ?_
  refine lv_iload_n hx hb dL_howOften_4 rfl (lv_at hl 2 rfl) ?_
  refine z_thrownr C0 hP hS (z_runVXr (As := [.int p0, .int p1]) (rest := [.int 0, .ref (ad 230)]) C0 hTh hP hS hl.1 (hM _) lk_L_73 hT.n0 hfs rfl rfl (Nat.le_of_ble_eq_true rfl) hrc hrs hR ⟨Nat.le_of_ble_eq_true rfl, Nat.le_of_ble_eq_true rfl⟩ dL_howOften_5) (fun g1 ce q9 H locs hp hP hS hce hcv hcl => ?_)
  obtain ⟨hT2, hF⟩ := hp
  refine vx_catch (own := RL) (name := zIAE) (E := zIAE) C0.2.2.2.1 [⟨0, 10, 13, 13⟩] ⟨0, 10, 17, 15⟩ [] htab (fun z hz => by rw [List.mem_singleton.mp hz]; exact Or.inr ⟨by decide, zIOB, hts _ q565, hN.1⟩) (by decide) (by decide) (hts _ q566) ((hTh.2.2.1 zIAE (by simp [zEs])).use rfl) hce hcv hcl ?_
  refine lv_astore (lv' := [(4, .ref q9), (0, .ref (ad 0)), (1, .int p0), (2, .int p1), (3, .ref (ad 230))]) hx hb dL_howOften_17 hl (by decide) rfl (fun ls hl => ?_)
  refine lv_iconst (v := 2) hx hb dL_howOften_19 (by decide) ?_
  exact z_iret C0 hP hS hr ⟨rfl, hT2, ⟨_, ⟨hO1, f, (hF 230 (by unfold zCl; omega)).trans hO2, hO3⟩, fun h => absurd h (by decide)⟩, hF.mono (fun z h => Or.inl h)⟩ dL_howOften_20
theorem lh_cordsFor : zLh RL 157 yL_cordsFor cL_cordsFor 5 (some .int) [(0, 10, 13, 15)] 4 := zLh.of q762 q763 q51 q764 (by decide +kernel)
set_option maxHeartbeats 1000000 in
theorem wok_cordsFor (l : Launch) {D : va_G} {cy : Nat → ClassId} {K : Nat} {ad : Nat → Nat} {g : Nat → va_E} (sz : Nat) {p0 p1 : Int32} {rm : Room} {v : Int32} {w : Int64} {C C2 : zCR} (hT : cT cy K ad g C) (hO : oV cy K g w) (hrc : rm.cells = 0) (hrs : rm.slots = 0) (hR : rm.frames + 1 ≤ 20 ∧ 8 + (3 + 11) + rm.locals ≤ 440) (hM : ∀ sz, Met l yX4_cordsFor (zs yX4_cordsFor cX4_cordsFor 3 (some .int)) rm (va_Pc [.ref (ad 0), .int p0, .int p1] (zIn D cy K ad g sz)) (va_Qi (fun r g1 => r = v ∧ cT cy K ad g1 C2 ∧ zFr zCl g g1) (zOut D cy K ad sz) (zA K ad sz)) 0 0 (zA K ad sz)) : wM l yL_cordsFor cL_cordsFor 5 [(0, 10, 13, 15)] [.ref (ad 0), .int p0, .int p1, .ref (ad 230)] D cy K ad g sz 0 v C2 := by
  refine z_metW (by decide) (Nat.le_of_ble_eq_true rfl) (fun p e s m below meth c ls hsz hl C0 htab hTh hN hr hP hS => ?_)
  subst hsz
  have hl : lv_has ls 5 [(0, .ref (ad 0)), (1, .int p0), (2, .int p1), (3, .ref (ad 230))] := hl
  have hx := C0.1; have hb := C0.2.1; have hts := C0.2.2.2.2.1
  obtain ⟨hO1, f, hO2, hO3⟩ := hO
  obtain ⟨fs, hfs⟩ := hT.rc
  refine W.widen (k := 1) (n := 6) (Nat.zero_le _) (Nat.zero_le _) ?_
  refine lv_aload_n hx hb dL_cordsFor_0 rfl (lv_at hl 3 rfl) ?_
  refine lv_iconst (v := 0) hx hb dL_cordsFor_1 (by decide) ?_
  refine lv_aload_n hx hb dL_cordsFor_2 rfl (lv_at hl 0 rfl) ?_
  refine lv_iload_n hx hb dL_cordsFor_3 rfl (lv_at hl 1 rfl) ?_
  refine lv_iload_n hx hb dL_cordsFor_4 rfl (lv_at hl 2 rfl) ?_
  refine z_Vi_mo (As := [.int p0, .int p1]) (rest := [.int 0, .ref (ad 230)]) C0 hP hS hl.1 (hM _) lk_L_76 hT.n0 hfs rfl rfl (Nat.le_of_ble_eq_true rfl) hR hrc hrs ⟨Nat.le_of_ble_eq_true rfl, Nat.le_of_ble_eq_true rfl⟩ dL_cordsFor_5 (fun r g1 H locs hP hS hp => ?_)
  obtain ⟨hr1, hT2, hF⟩ := hp
  subst hr1
  have hO3 := (hF 230 (by unfold zCl; omega)).trans hO2
  refine lv_i2l (v := r.toInt64) hx hb dL_cordsFor_8 rfl ?_
  refine z_last C0 hP hS hO1 hO3 (zIx_of nI_0.symm (by decide) (by decide)) dL_cordsFor_9 (fun H locs hP hS => ?_)
  refine lv_goto (tgt := 17) hx hb dL_cordsFor_10 (by decide) ?_
  refine lv_iconst (v := 0) hx hb dL_cordsFor_17 (by decide) ?_
  exact z_iret C0 hP hS hr ⟨rfl, hT2.kept (P := fun z => z = 230) (zFr.up zFr.rf rfl) (fun z h q => by subst q; unfold zCl at h; omega), ⟨_, ⟨hO1, _, va_up_self _ _ _, if_pos rfl⟩, fun _ => rfl⟩, (hF.mono (fun z h => Or.inl h)).up (Or.inr rfl)⟩ dL_cordsFor_18
set_option maxHeartbeats 1000000 in
theorem wx1_cordsFor (l : Launch) {D : va_G} {cy : Nat → ClassId} {K : Nat} {ad : Nat → Nat} {g : Nat → va_E} (sz : Nat) {p0 p1 : Int32} {rm : Room} {v : Int32} {w : Int64} {C C2 : zCR} (hT : cT cy K ad g C) (hO : oV cy K g w) (hrc : rm.cells = 1) (hrs : rm.slots = 6) (hR : rm.frames + 1 ≤ 20 ∧ 8 + (3 + 11) + rm.locals ≤ 440) (hM : ∀ sz, zXMr l yX4_cordsFor cX4_cordsFor 3 (some .int) rm [.ref (ad 0), .int p0, .int p1] D cy K ad g sz zIAE (fun g1 => cT cy K ad g1 C2 ∧ zFr zCl g g1)) : wM l yL_cordsFor cL_cordsFor 5 [(0, 10, 13, 15)] [.ref (ad 0), .int p0, .int p1, .ref (ad 230)] D cy K ad g sz 1 v C2 := by
  refine z_metW (by decide) (Nat.le_of_ble_eq_true rfl) (fun p e s m below meth c ls hsz hl C0 htab hTh hN hr hP hS => ?_)
  subst hsz
  have hl : lv_has ls 5 [(0, .ref (ad 0)), (1, .int p0), (2, .int p1), (3, .ref (ad 230))] := hl
  have hx := C0.1; have hb := C0.2.1; have hts := C0.2.2.2.2.1
  obtain ⟨hO1, f, hO2, hO3⟩ := hO
  obtain ⟨fs, hfs⟩ := hT.rc
  refine lv_aload_n hx hb dL_cordsFor_0 rfl (lv_at hl 3 rfl) ?_
  refine lv_iconst (v := 0) hx hb dL_cordsFor_1 (by decide) ?_
  refine lv_aload_n hx hb dL_cordsFor_2 rfl (lv_at hl 0 rfl) ?_
  refine lv_iload_n hx hb dL_cordsFor_3 rfl (lv_at hl 1 rfl) ?_
  refine lv_iload_n hx hb dL_cordsFor_4 rfl (lv_at hl 2 rfl) ?_
  refine z_thrownr C0 hP hS (z_runVXr (As := [.int p0, .int p1]) (rest := [.int 0, .ref (ad 230)]) C0 hTh hP hS hl.1 (hM _) lk_L_76 hT.n0 hfs rfl rfl (Nat.le_of_ble_eq_true rfl) hrc hrs hR ⟨Nat.le_of_ble_eq_true rfl, Nat.le_of_ble_eq_true rfl⟩ dL_cordsFor_5) (fun g1 ce q9 H locs hp hP hS hce hcv hcl => ?_)
  obtain ⟨hT2, hF⟩ := hp
  refine vx_catch (own := RL) (name := zIAE) (E := zIAE) C0.2.2.2.1 [] ⟨0, 10, 13, 15⟩ [] htab (fun z hz => absurd hz List.not_mem_nil) (by decide) (by decide) (hts _ q566) ((hTh.2.2.1 zIAE (by simp [zEs])).use rfl) hce hcv hcl ?_
  refine lv_astore (lv' := [(4, .ref q9), (0, .ref (ad 0)), (1, .int p0), (2, .int p1), (3, .ref (ad 230))]) hx hb dL_cordsFor_13 hl (by decide) rfl (fun ls hl => ?_)
  refine lv_iconst (v := 1) hx hb dL_cordsFor_15 (by decide) ?_
  exact z_iret C0 hP hS hr ⟨rfl, hT2, ⟨_, ⟨hO1, f, (hF 230 (by unfold zCl; omega)).trans hO2, hO3⟩, fun h => absurd h (by decide)⟩, hF.mono (fun z h => Or.inl h)⟩ dL_cordsFor_16
