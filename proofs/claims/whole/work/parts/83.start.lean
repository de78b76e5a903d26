/-! ===== the law's entry ===== -/
section ZST
variable {s : State} {args : Array Value}
theorem arr_prim {ty : FieldType} (h : (Cond.arrayClass ty).before args s = true) (hR : ∀ cA, va_RA s cA ty = (s.vm.findClass ("[" ++ ty.toString) = some cA)) : ∃ cA, ArrOfT s cA ty ∧ va_RA s cA ty := by
  obtain ⟨c, k, comp, h1, h2, h3⟩ := Cond.arrayClass_spec h
  exact ⟨c, fun n z => ⟨fun k h => (by cases h), k, h2, comp, h3⟩, by rw [hR]; exact h1⟩
theorem arr_obj {C : String} (h : (Cond.arrayOver (.object C)).before args s = true) : ∃ cA, ArrOfT s cA (.object C) ∧ va_RA s cA (.object C) := by
  obtain ⟨comp, c, k, h1, h2, h3, h4, h5⟩ := Cond.arrayOver_spec h
  exact ⟨c, fun n z => ⟨fun k h => (by cases h), k, h3, comp, h4⟩, k, comp, h3, h4, h1, h5⟩
theorem tb_over0 : Cond.arrayOver (.object "HerdCords$Cord") ∈ lw_tbl := List.mem_of_getElem? (i := 82) (by decide +kernel)
theorem tb_over1 : Cond.arrayOver (.object "HerdCords$Herd") ∈ lw_tbl := List.mem_of_getElem? (i := 153) (by decide +kernel)
theorem tb_nest0 : Cond.methodLinkNest "HerdCords$Herd" 36 ⟨"HerdCords$Cord", "<init>", "()V"⟩ "HerdCords" ∈ lw_tbl := List.mem_of_getElem? (i := 84) (by decide +kernel)
theorem tb_nest1 : Cond.methodLinkNest "HerdCords" 44 ⟨"HerdCords$Cord", "<init>", "()V"⟩ "HerdCords" ∈ lw_tbl := List.mem_of_getElem? (i := 193) (by decide +kernel)
theorem tb_nest2 : Cond.methodLinkNest "HerdCords" 37 ⟨"HerdCords$OrderReader", "<init>", "()V"⟩ "HerdCords" ∈ lw_tbl := List.mem_of_getElem? (i := 168) (by decide +kernel)
theorem tb_lays0 : Cond.laysStatic Bundle.tN "UNASSIGNED_STACK" Bundle.steD ∈ lw_tbl := List.mem_of_getElem? (i := 367) (by decide +kernel)
theorem tb_lays1 : Cond.laysStatic Bundle.tN "SUPPRESSED_SENTINEL" Bundle.listD ∈ lw_tbl := List.mem_of_getElem? (i := 369) (by decide +kernel)
theorem tb_init : Cond.initialized Bundle.tN ∈ lw_tbl := List.mem_of_getElem? (i := 58) (by decide +kernel)
theorem tb_cast : ∀ E ∈ zEs, Cond.castable E E ∈ lw_tbl := by
  intro E hE
  simp only [zEs, List.mem_cons, List.not_mem_nil, or_false] at hE
  rcases hE with rfl | rfl | rfl
  · exact List.mem_of_getElem? (i := 426) (by decide +kernel)
  · exact List.mem_of_getElem? (i := 342) (by decide +kernel)
  · exact List.mem_of_getElem? (i := 672) (by decide +kernel)
theorem tb_decl : ∀ y ∈ zDec, Cond.declares y ∈ lw_tbl := by
  intro y hy
  simp only [zDec, List.mem_cons, List.not_mem_nil, or_false] at hy
  rcases hy with rfl | rfl | rfl
  · exact List.mem_of_getElem? (i := 348) (by decide +kernel)
  · exact List.mem_of_getElem? (i := 346) (by decide +kernel)
  · exact List.mem_of_getElem? (i := 344) (by decide +kernel)
theorem tb_str : ∀ q ∈ zStr, Cond.stringRef RX4 q.1 q.2 ∈ lw_tbl := by decide +kernel
theorem st_K (hts : ∀ w ∈ lw_tbl, w.before args s = true) : ∃ (D : va_G) (cy : Nat → ClassId), va_K D vwCl (zT cy) s := by
  have hz : ∀ w ∈ zW, w.before args s = true := fun w h => hts w (zW_tbl w h)
  obtain ⟨c0, i0, h0⟩ := u_known (C := RX0) (T := TX0) (N := 6) (n := 6) hz ziX0 (hz _ q83)
  obtain ⟨c1, i1, h1⟩ := u_known (C := RX1) (T := TX1) (N := 7) (n := 7) hz ziX1 (hz _ q76)
  obtain ⟨c2, i2, h2⟩ := u_known (C := RX2) (T := TX2) (N := 3) (n := 3) hz ziX2 (hz _ q147)
  obtain ⟨c3, i3, h3⟩ := u_known (C := RX3) (T := TX3) (N := 5) (n := 5) hz ziX3 (hz _ q167)
  obtain ⟨c4, i4, h4⟩ := u_known (C := RX4) (T := TX4) (N := 8) (n := 8) hz ziX4 (hz _ q68)
  obtain ⟨c5, i5, h5⟩ := u_known (C := RX5) (T := TX5) (N := 12) (n := 12) hz ziX5 (hz _ q767)
  obtain ⟨y0, r0⟩ := arr_prim (ty := .char) (hz _ q191) (fun _ => rfl)
  obtain ⟨y1, r1⟩ := arr_prim (ty := .int) (hz _ q116) (fun _ => rfl)
  obtain ⟨y2, r2⟩ := arr_prim (ty := .boolean) (hz _ q809) (fun _ => rfl)
  obtain ⟨y3, r3⟩ := arr_obj (hts _ tb_over0)
  obtain ⟨y4, r4⟩ := arr_obj (hts _ tb_over1)
  obtain ⟨y5, r5⟩ := arr_prim (ty := .long) (hz _ q1089) (fun _ => rfl)
  refine ⟨(fun k => if k = 0 then c0 else if k = 1 then c1 else if k = 2 then c2 else if k = 3 then c3 else if k = 4 then c4 else c5, fun k => if k = 0 then i0 else if k = 1 then i1 else if k = 2 then i2 else if k = 3 then i3 else if k = 4 then i4 else i5), fun k => if k = 0 then y0 else if k = 1 then y1 else if k = 2 then y2 else if k = 3 then y3 else if k = 4 then y4 else y5, ?_, ?_⟩
  · intro k q hq
    match k, hq with
    | 0, hq => cases hq; exact h0
    | 1, hq => cases hq; exact h1
    | 2, hq => cases hq; exact h2
    | 3, hq => cases hq; exact h3
    | 4, hq => cases hq; exact h4
    | 5, hq => cases hq; exact h5
    | k + 6, hq => simp [vwCl] at hq
  · intro k q hq
    match k, hq with
    | 0, hq => cases hq; exact r0
    | 1, hq => cases hq; exact r1
    | 2, hq => cases hq; exact r2
    | 3, hq => cases hq; exact r3
    | 4, hq => cases hq; exact r4
    | 5, hq => cases hq; exact r5
    | k + 6, hq => simp [zT] at hq
theorem st_N (hts : ∀ w ∈ lw_tbl, w.before args s = true) : zN s := ⟨va_AO.of (hts _ tb_over0), va_AO.of (hts _ tb_over1), va_Nw.of rfl (hts _ tb_nest0), va_Nw.of rfl (hts _ tb_nest1), va_Nw.of rfl (hts _ tb_nest2)⟩
theorem st_Nc (hgv : (Jvm.Cond.and given_1 narrow_1).before args s = true) : zNc s := by
  have hs := flat_of_before _ hgv
  exact ⟨va_Nc.of (args := args) (hs _ (by decide +kernel)), va_Nc.of (args := args) (hs _ (by decide +kernel))⟩
theorem st_Th {D : va_G} {cy : Nat → ClassId} (hts : ∀ w ∈ lw_tbl, w.before args s = true) (hgv : (Jvm.Cond.and given_1 narrow_1).before args s = true) (hK : va_K D vwCl (zT cy) s) : zTh (fun q => s.heap.size ≤ q) s s.heap := by
  have hs := flat_of_before _ hgv
  have hA : ∀ a : Nat, a < s.heap.size → ¬ s.heap.size ≤ a := fun a h => Nat.not_le.mpr h
  refine ⟨vx_Zqof (args := args) (hts _ tb_lays0) (hts _ tb_init) (hs _ (by decide +kernel)) hA, vx_Zqof (args := args) (hts _ tb_lays1) (hts _ tb_init) (hs _ (by decide +kernel)) hA, fun E hE => va_Nw.of (A := args) rfl (hts _ (tb_cast E hE)), fun y hy => va_Nw.of (A := args) rfl (hts _ (tb_decl y hy)), fun q hq => ?_⟩
  have h1 := hts _ (tb_str q hq)
  obtain ⟨k, cf, i, a, -, -, -, -, -, h2⟩ := Cond.stringRef_spec (hK.1 4 _ rfl).2.1 h1
  exact ⟨a, vk_R.of (A := args) h1 h2⟩
end ZST
theorem zP_0 {D : va_G} {A : Nat → Prop} {H : Heap} (ad : Nat → Nat) (g : Nat → va_E) : zP D 0 ad g A H := ⟨fun k q h => (by simp [zw] at h), fun i j p q h => (by simp [zw] at h), fun k q h => (by simp [zw] at h)⟩
theorem AGr_0 : AGr (st0, fun _ => st0, 0, 0, fun _ => none, fun _ => st0, fun _ => 0, 0) (st0, fun _ => 0, fun _ => 0, fun _ => 0, fun _ => 0) :=
  ⟨stOK_0, sE.rf _, by decide, by decide, svE_0 _ _ _, slE_0, by decide, fun k hk => absurd hk (Nat.not_lt_zero _), fun k hk => absurd hk (Nat.not_lt_zero _)⟩
set_option maxHeartbeats 4000000 in
theorem whole_start {p : Program} {e : Env} {s : State} {m : MethodId} {below : List Frame} {meth : Method} {c : Code} (l : Launch) (hflags : l.flags = flags0) {b L : Nat} {xs : Nat → Int32} (hL : L ≤ 2048) (C0 : lw_At p s m meth c b L xs) : W p l e room_1 s m #[Value.ref b] below meth c s.heap [] 0 0 (lw_Z below #[Value.ref b] s) (entryFrame m ([Value.ref b] : List Value).toArray 9) := by
  obtain ⟨hx, hb, hr, hml, hown, hts, hX, hbl, hlocks, hgv⟩ := id C0
  obtain ⟨D, cy, hK⟩ := st_K hts
  have hfl : l.stackTraces = false := by
    unfold Launch.stackTraces
    rw [hflags]
    decide
  have hN := st_N hts
  have C1 : zC p s m #[Value.ref b] c meth code 9 RL D cy (fun q => s.heap.size ≤ q) := ⟨hx, hb, hml, hown, fun w h => hts w (zW_tbl w h), hK, fun q h => h, hlocks⟩
  have F : lwF p s m c meth b L xs D cy := ⟨C1, st_Th hts hgv hK, st_Nc hgv, hN, hX, hbl, hL⟩
  have hP : zP D 0 (fun _ => 0) (fun _ => .inr (0, [])) (fun q => s.heap.size ≤ q) s.heap := zP_0 _ _
  have hS : va_S (fun q : Nat => s.heap.size ≤ q) s.heap s.heap [] := va_S.rf
  have hl := lv_entry ([.ref b]) (n := 9) (Nat.le_of_ble_eq_true rfl)
  rw [lg_entry_eq]
  generalize (lg_sl ([.ref b]) ++ List.replicate (9 - (lg_sl ([.ref b])).length) Slot.unset).toArray = ls at hl ⊢
  have hl : lv_has ls 9 [(0, .ref b)] := hl
  refine z_newc C1 hP hS zn_L_8 (Nat.le_of_ble_eq_true rfl) (Nat.le_of_ble_eq_true rfl) dL_law_0 (fun ad1 g1 q1 H hG1 hq1 hg1 hP hS => ?_)
  refine lv_dup hx hb dL_law_3 rfl ?_
  refine z_callvN C1 hP hS (z_runI (rest := [.ref q1]) C1 hN hP hl.1 (m_X4_init l _ hg1) zl_L_79 hq1 (Nat.le_of_ble_eq_true rfl) rfl rfl ⟨Nat.le_of_ble_eq_true rfl, Nat.le_of_ble_eq_true rfl⟩ ⟨Nat.le_of_ble_eq_true rfl, Nat.le_of_ble_eq_true rfl⟩ dL_law_4) (fun K2 ad2 g2 H locs hP hS hp => ?_)
  obtain ⟨hK2, hA2, -, hT⟩ := hp
  dsimp only at hK2 hA2 hT
  subst hK2
  refine lv_astore_n (lv' := [(1, .ref q1), (0, .ref b)]) hx hb dL_law_7 rfl hl (by decide) rfl (fun ls hl => ?_)
  refine z_newc C1 hP hS zn_L_80 (Nat.le_of_ble_eq_true rfl) (Nat.le_of_ble_eq_true rfl) dL_law_8 (fun ad3 g3 q2 H hG3 hq2 hg3 hP hS => ?_)
  refine lv_dup hx hb dL_law_11 rfl ?_
  refine z_callvN C1 hP hS (z_runI (rest := [.ref q2]) C1 hN hP hl.1 (m_X5_init l _ (n := 221) hg3) zl_L_82 hq2 (Nat.le_of_ble_eq_true rfl) rfl rfl ⟨Nat.le_of_ble_eq_true rfl, Nat.le_of_ble_eq_true rfl⟩ ⟨Nat.le_of_ble_eq_true rfl, Nat.le_of_ble_eq_true rfl⟩ dL_law_12) (fun K4 ad4 g4 H locs hP hS hp => ?_)
  obtain ⟨hK4, hA4, hG4, hM⟩ := hp
  dsimp only at hK4 hA4 hG4 hM
  subst hK4
  refine lv_astore_n (lv' := [(2, .ref q2), (1, .ref q1), (0, .ref b)]) hx hb dL_law_15 rfl hl (by decide) rfl (fun ls hl => ?_)
  refine lv_iconst (v := 1) hx hb dL_law_16 (by decide) ?_
  refine z_newa (atype := .long) (t0 := 5) (N' := 1) (a0 := (1, .inr (.inl (fun _ => 0)))) C1 hP hS q1089 rfl rfl (fun cA => rfl) (by decide) (by decide) (Nat.le_of_ble_eq_true rfl) (Nat.le_of_ble_eq_true rfl) (Nat.le_of_ble_eq_true rfl) dL_law_17 (fun ad5 g5 q3 H hG5 hq3 hg5 hP hS => ?_)
  refine lv_astore_n (lv' := [(3, .ref q3), (2, .ref q2), (1, .ref q1), (0, .ref b)]) hx hb dL_law_19 rfl hl (by decide) rfl (fun ls hl => ?_)
  refine lv_iconst (v := 0) hx hb dL_law_20 (by decide) ?_
  refine lv_istore (lv' := [(4, .int 0), (3, .ref q3), (2, .ref q2), (1, .ref q1), (0, .ref b)]) hx hb dL_law_21 hl (by decide) rfl (fun ls hl => ?_)
  have e0 : ad5 0 = q1 := (hG5.1 0 (by decide)).trans ((hA4 0 (by decide)).trans ((hG3.1 0 (by decide)).trans ((hA2 0 (by decide)).trans hq1)))
  have e1 : ad5 221 = q2 := (hG5.1 221 (by decide)).trans ((hA4 221 (by decide)).trans hq2)
  have hT5 : cT cy 231 ad5 g5 (st0, fun _ => st0, 0, 0, fun _ => none, fun _ => st0, fun _ => 0, 0) := isT.gr hT (by decide) (fun x hx => (hG5.1 x (by omega)).trans ((hA4 x (by omega)).trans (hG3.1 x hx))) (fun x hx => (hG5.2 x (by omega)).trans ((hG4 x hx).trans (hG3.2 x hx)))
  have hM4 : mT cy 230 ad4 g4 0 0 (st0, fun _ => 0, fun _ => 0, fun _ => 0, fun _ => 0) 0 := ⟨_, _, _, _, hM⟩
  have hM5 := hM4.gr (K1 := 231) (by decide) (ad1 := ad5) (g1 := g5) (fun x hx => hG5.1 x hx) (fun x _ hx => hG5.2 x hx)
  refine W.widen (k := 300) (n := 5000) (Nat.le_of_ble_eq_true rfl) (Nat.le_of_ble_eq_true rfl) ?_
  exact law_loop hfl F hr (L + 1) 0 (by omega) (Nat.zero_le _) 231 ad5 g5 H locs ls hP hS ⟨_, _, _, 0, hT5, hM5, ⟨by decide, _, hg5, rfl⟩, AGr_0⟩ e0 e1 hq3 (lv_sub hl [4, 3, 2, 1, 0] rfl)
