/-! ===== the law's entry ===== -/
section ZST
variable {s : State} {args : Array Value}
theorem arr_prim {ty : FieldType} (h : (Cond.arrayClass ty).before args s = true) (hR : ∀ cA, va_RA s cA ty = (s.vm.findClass ("[" ++ ty.toString) = some cA)) : ∃ cA, ArrOfT s cA ty ∧ va_RA s cA ty := by
  obtain ⟨c, k, comp, h1, h2, h3⟩ := Cond.arrayClass_spec h
  exact ⟨c, fun n z => ⟨fun k h => (by cases h), k, h2, comp, h3⟩, by rw [hR]; exact h1⟩
theorem arr_obj {C : String} (h : (Cond.arrayOver (.object C)).before args s = true) : ∃ cA, ArrOfT s cA (.object C) ∧ va_RA s cA (.object C) := by
  obtain ⟨comp, c, k, h1, h2, h3, h4, h5⟩ := Cond.arrayOver_spec h
  exact ⟨c, fun n z => ⟨fun k h => (by cases h), k, h3, comp, h4⟩, k, comp, h3, h4, h1, h5⟩
theorem tb_over0 : Cond.arrayOver (.object "HerdCords$Cord") ∈ lw_tbl := List.mem_of_getElem? (i := 34) (by decide +kernel)
theorem tb_over1 : Cond.arrayOver (.object "HerdCords$Herd") ∈ lw_tbl := List.mem_of_getElem? (i := 105) (by decide +kernel)
theorem tb_nest0 : Cond.methodLinkNest "HerdCords$Herd" 36 ⟨"HerdCords$Cord", "<init>", "()V"⟩ "HerdCords" ∈ lw_tbl := List.mem_of_getElem? (i := 36) (by decide +kernel)
theorem tb_nest1 : Cond.methodLinkNest "HerdCords" 44 ⟨"HerdCords$Cord", "<init>", "()V"⟩ "HerdCords" ∈ lw_tbl := List.mem_of_getElem? (i := 142) (by decide +kernel)
theorem tb_nest2 : Cond.methodLinkNest "HerdCords" 37 ⟨"HerdCords$OrderReader", "<init>", "()V"⟩ "HerdCords" ∈ lw_tbl := List.mem_of_getElem? (i := 120) (by decide +kernel)
theorem st_K (hts : ∀ w ∈ lw_tbl, w.before args s = true) : ∃ (D : va_G) (cy : Nat → ClassId), va_K D vwCl (zT cy) s := by
  have hz : ∀ w ∈ zW, w.before args s = true := fun w h => hts w (zW_tbl w h)
  obtain ⟨c0, i0, h0⟩ := u_known (C := RX0) (T := TX0) (N := 6) (n := 6) hz ziX0 (hz _ q35)
  obtain ⟨c1, i1, h1⟩ := u_known (C := RX1) (T := TX1) (N := 7) (n := 7) hz ziX1 (hz _ q28)
  obtain ⟨c2, i2, h2⟩ := u_known (C := RX2) (T := TX2) (N := 3) (n := 3) hz ziX2 (hz _ q99)
  obtain ⟨c3, i3, h3⟩ := u_known (C := RX3) (T := TX3) (N := 5) (n := 5) hz ziX3 (hz _ q119)
  obtain ⟨c4, i4, h4⟩ := u_known (C := RX4) (T := TX4) (N := 8) (n := 8) hz ziX4 (hz _ q20)
  obtain ⟨y0, r0⟩ := arr_prim (ty := .char) (hz _ q140) (fun _ => rfl)
  obtain ⟨y1, r1⟩ := arr_prim (ty := .int) (hz _ q68) (fun _ => rfl)
  obtain ⟨y2, r2⟩ := arr_prim (ty := .byte) (hz _ q242) (fun _ => rfl)
  obtain ⟨y3, r3⟩ := arr_obj (hts _ tb_over0)
  obtain ⟨y4, r4⟩ := arr_obj (hts _ tb_over1)
  refine ⟨(fun k => if k = 0 then c0 else if k = 1 then c1 else if k = 2 then c2 else if k = 3 then c3 else c4, fun k => if k = 0 then i0 else if k = 1 then i1 else if k = 2 then i2 else if k = 3 then i3 else i4), fun k => if k = 0 then y0 else if k = 1 then y1 else if k = 2 then y2 else if k = 3 then y3 else y4, ?_, ?_⟩
  · intro k q hq
    match k, hq with
    | 0, hq => cases hq; exact h0
    | 1, hq => cases hq; exact h1
    | 2, hq => cases hq; exact h2
    | 3, hq => cases hq; exact h3
    | 4, hq => cases hq; exact h4
    | k + 5, hq => simp [vwCl] at hq
  · intro k q hq
    match k, hq with
    | 0, hq => cases hq; exact r0
    | 1, hq => cases hq; exact r1
    | 2, hq => cases hq; exact r2
    | 3, hq => cases hq; exact r3
    | 4, hq => cases hq; exact r4
    | k + 5, hq => simp [zT] at hq
theorem st_N (hts : ∀ w ∈ lw_tbl, w.before args s = true) : zN s := ⟨va_AO.of (hts _ tb_over0), va_AO.of (hts _ tb_over1), va_Nw.of rfl (hts _ tb_nest0), va_Nw.of rfl (hts _ tb_nest1), va_Nw.of rfl (hts _ tb_nest2)⟩
end ZST
theorem zP_0 {D : va_G} {A : Nat → Prop} {H : Heap} (ad : Nat → Nat) (g : Nat → va_E) : zP D 0 ad g A H := ⟨fun k q h => (by simp [zw] at h), fun i j p q h => (by simp [zw] at h), fun k q h => (by simp [zw] at h)⟩
theorem half {L : Nat} (hL : L ≤ 260) : Int32.ofNat L / 2 = nI (L / 2) := nI_div (a := L) (b := 2) (by omega) (by decide)
set_option maxHeartbeats 4000000 in
theorem whole_start {p : Program} {e : Env} {s : State} {m : MethodId} {below : List Frame} {meth : Method} {c : Code} (l : Launch) (hflags : l.flags = flags0) {b L : Nat} {xs : Nat → Int32} (hL : L ≤ 260) (C0 : lw_At p s m meth c b L xs) : W p l e room_1 s m #[Value.ref b] below meth c s.heap [] 0 0 (lw_Z below #[Value.ref b] s) (entryFrame m ([Value.ref b] : List Value).toArray 8) := by
  obtain ⟨hx, hb, hr, hml, hown, hts, hX, hbl, hlocks, hgv⟩ := id C0
  obtain ⟨D, cy, hK⟩ := st_K hts
  have hN := st_N hts
  have C1 : zC p s m #[Value.ref b] c meth code 8 RL D cy (fun q => s.heap.size ≤ q) := ⟨hx, hb, hml, hown, fun w h => hts w (zW_tbl w h), hK, fun q h => h, hlocks⟩
  have F : lwF p s m c meth b L xs D cy := ⟨C1, hN, hX, hbl, hL⟩
  have hbA : ¬ s.heap.size ≤ b := Nat.not_le.mpr hbl
  have hP : zP D 0 (fun _ => 0) (fun _ => .inr (0, [])) (fun q => s.heap.size ≤ q) s.heap := zP_0 _ _
  have hS : va_S (fun q : Nat => s.heap.size ≤ q) s.heap s.heap [] := va_S.rf
  have hl := lv_entry ([.ref b]) (n := 8) (Nat.le_of_ble_eq_true rfl)
  rw [lg_entry_eq]
  generalize (lg_sl ([.ref b]) ++ List.replicate (8 - (lg_sl ([.ref b])).length) Slot.unset).toArray = ls at hl ⊢
  have hl : lv_has ls 8 [(0, .ref b)] := hl
  refine z_newc C1 hP hS zn_L_16 (Nat.le_of_ble_eq_true rfl) (Nat.le_of_ble_eq_true rfl) dL_law_0 (fun ad1 g1 q1 H hG1 hq1 hg1 hP hS => ?_)
  refine lv_dup hx hb dL_law_3 rfl ?_
  refine z_callvN C1 hP hS (z_runI (rest := [.ref q1]) C1 hN hP hl.1 (m_X4_init l _ hg1) zl_L_87 hq1 (Nat.le_of_ble_eq_true rfl) rfl rfl ⟨Nat.le_of_ble_eq_true rfl, Nat.le_of_ble_eq_true rfl⟩ ⟨Nat.le_of_ble_eq_true rfl, Nat.le_of_ble_eq_true rfl⟩ dL_law_4) (fun K2 ad2 g2 H locs hP hS hp => ?_)
  obtain ⟨hK2, hA2, -, hTT⟩ := hp
  dsimp only at hK2 hA2 hTT
  subst hK2
  have e0 : ad2 0 = q1 := (hA2 0 (by decide)).trans hq1
  refine lv_astore_n (lv' := [(1, .ref q1), (0, .ref b)]) hx hb dL_law_7 rfl hl (by decide) rfl (fun ls hl => ?_)
  have hl : lv_has ls 8 [(1, .ref (ad2 0)), (0, .ref b)] := by rw [e0]; exact hl
  refine W.widen (k := 300) (n := 5000) (Nat.le_of_ble_eq_true rfl) (Nat.le_of_ble_eq_true rfl) ?_
  obtain ⟨fs_10, hfs_10⟩ := hTT.rc
  refine lv_aload_n hx hb dL_law_8 rfl (lv_at hl 0 rfl) ?_
  refine lv_iconst (v := 1) hx hb dL_law_9 (by decide) ?_
  refine z_Si_mo (As := [.ref (ad2 0), .int 1]) (rest := []) C1 hP hS hl.1 (m_L_holds l _ hTT pI_0) lk_L_88 rfl rfl (Nat.le_of_ble_eq_true rfl) ⟨Nat.le_of_ble_eq_true rfl, Nat.le_of_ble_eq_true rfl⟩ rfl rfl ⟨Nat.le_of_ble_eq_true rfl, Nat.le_of_ble_eq_true rfl⟩ dL_law_10 (fun r_10 g3 H locs hP hS hp => ?_)
  obtain ⟨hr_10, hTT, hF1⟩ := hp
  subst hr_10
  refine lv_if_eq (tgt := 29) hx hb dL_law_13 (by decide) (fun q => absurd q (by decide)) (fun _ => ?_)
  obtain ⟨fs_19, hfs_19⟩ := hTT.rc
  refine lv_aload_n hx hb dL_law_16 rfl (lv_at hl 0 rfl) ?_
  refine lv_bipush (v := nI 9) hx hb dL_law_17 (by decide) ?_
  refine z_Vi_eq (As := [.int (nI 9)]) (rest := []) C1 hP hS hl.1 (m_X4_count l _ hTT (by decide) pI_0.pc) lk_L_20 hTT.n0 hfs_19 rfl rfl (Nat.le_of_ble_eq_true rfl) ⟨Nat.le_of_ble_eq_true rfl, Nat.le_of_ble_eq_true rfl⟩ rfl rfl ⟨Nat.le_of_ble_eq_true rfl, Nat.le_of_ble_eq_true rfl⟩ dL_law_19 (fun H locs hP hS => ?_)
  refine lv_if_ne (tgt := 29) hx hb dL_law_22 (by decide) (fun q => absurd (show countF st0 0 9 = 0 by decide) q) (fun _ => ?_)
  refine lv_iconst (v := 1) hx hb dL_law_25 (by decide) ?_
  refine lv_goto (tgt := 30) hx hb dL_law_26 (by decide) ?_
  refine lv_istore_n (lv' := [(2, .int 1), (1, .ref (ad2 0)), (0, .ref b)]) hx hb dL_law_30 rfl hl (by decide) rfl (fun ls hl => ?_)
  have fin9 : ∀ (T : Nat) (ls : Array Slot), 2 * T ≤ L → T ≤ 44 → lv_has ls 8 [(3, .int (nI T)), (2, .int 1), (1, .ref (ad2 0)), (0, .ref b)] → W p l e room_1 s m #[Value.ref b] below meth c H locs 300 5000 (lw_Z below #[Value.ref b] s) (F0 m 50 ls []) := by
    intro T ls hT2L hT44 hl
    refine lv_iconst (v := nI 0) hx hb dL_law_50 (by decide) ?_
    refine lv_istore (lv' := [(4, .int (nI 0)), (3, .int (nI T)), (2, .int 1), (1, .ref (ad2 0)), (0, .ref b)]) hx hb dL_law_51 hl (by decide) rfl (fun ls hl => ?_)
    exact law_loop F hr hT2L hT44 (T + 1) 0 (by omega) (Nat.zero_le _) 221 ad2 g3 H locs ls hP hS ⟨_, _, _, _, _, _, _, _, hTT, pI_0, by decide, by decide, Nat.le_refl _⟩ (lv_sub hl [0, 2, 1, 3, 4] rfl)
  refine lv_aload_n hx hb dL_law_31 rfl (lv_at hl 2 rfl) ?_
  refine va_slen hx hb hX hbl hbA hS dL_law_32 ?_
  refine lv_iconst (v := 2) hx hb dL_law_33 (by decide) ?_
  refine lv_idiv hx hb dL_law_34 (by decide) ?_
  refine z_topi (y := nI (L / 2)) (half hL) ?_
  refine lv_bipush (v := 44) hx hb dL_law_35 (by decide) ?_
  refine lv_icmp_le (tgt := 45) hx hb dL_law_37 (by decide) (fun c_37 => ?_) (fun c_37 => ?_)
  · have h9 : L / 2 ≤ 44 := (nI_leI (a := L / 2) (b := 44) (by omega) (by decide)).mp c_37
    refine lv_aload_n hx hb dL_law_45 rfl (lv_at hl 2 rfl) ?_
    refine va_slen hx hb hX hbl hbA hS dL_law_46 ?_
    refine lv_iconst (v := 2) hx hb dL_law_47 (by decide) ?_
    refine lv_idiv hx hb dL_law_48 (by decide) ?_
    refine z_topi (y := nI (L / 2)) (half hL) ?_
    refine lv_istore_n (lv' := [(3, .int (nI (L / 2))), (2, .int 1), (1, .ref (ad2 0)), (0, .ref b)]) hx hb dL_law_49 rfl hl (by decide) rfl (fun ls hl => ?_)
    exact fin9 (L / 2) ls (by omega) h9 hl
  · have h9 : ¬ L / 2 ≤ 44 := fun q => c_37 ((nI_leI (a := L / 2) (b := 44) (by omega) (by decide)).mpr q)
    refine lv_bipush (v := nI 44) hx hb dL_law_40 (by decide) ?_
    refine lv_goto (tgt := 49) hx hb dL_law_42 (by decide) ?_
    refine lv_istore_n (lv' := [(3, .int (nI 44)), (2, .int 1), (1, .ref (ad2 0)), (0, .ref b)]) hx hb dL_law_49 rfl hl (by decide) rfl (fun ls hl => ?_)
    exact fin9 44 ls (by omega) (Nat.le_refl _) hl
