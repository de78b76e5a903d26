/-- a new state -/
def st0 : Nat → Int32 := fun x => if x = 5 then 40 else 0
theorem st0_c {x : Nat} (h : 6 ≤ x) : st0 x = 0 := if_neg (by omega)
theorem isCs.of0 {cy : Nat → ClassId} {K : Nat} {ad : Nat → Nat} {g : Nat → va_E} {n i : Nat} (h : isC cy K ad g n (fun _ => 0) (fun _ => 0) (fun _ => 0) 0 0 0) : isCs cy K ad g n (fun j => st0 (6 + 31 * i + j)) :=
  ⟨fun _ => 0, fun _ => 0, fun _ => 0, by show isC cy K ad g n (fun _ => 0) (fun _ => 0) (fun _ => 0) (st0 (6 + 31 * i + 1)) (st0 (6 + 31 * i + 0)) (st0 (6 + 31 * i + 2)); rw [st0_c (x := 6 + 31 * i + 1) (by omega), st0_c (x := 6 + 31 * i + 0) (by omega), st0_c (x := 6 + 31 * i + 2) (by omega)]; exact h, fun p hp => (st0_c (by omega)).symm, fun p hp => (st0_c (by omega)).symm, fun p hp => (st0_c (by omega)).symm⟩

set_option maxHeartbeats 4000000 in
set_option maxRecDepth 100000 in
theorem m_X1_init (l : Launch) {D : va_G} {cy : Nat → ClassId} {ad : Nat → Nat} {g : Nat → va_E} (sz : Nat) {n : Nat} (h0 : g (n) = .inr (1, [.null, .int 0, .int 0, .int 0, .int 0, .int 0, .int 0])) : Met l yX1_init (zs yX1_init cX1_init 2 none) ({ frames := 3, cells := 29, slots := 245, locals := 70 } : Room) (va_Pc [.ref (ad (n))] (zInN D cy (n + 1) ad g sz)) (va_Qv (fun u : zU => u.1 = n + 30 ∧ (∀ x, x < n + 1 → u.2.1 x = ad x) ∧ (∀ x, x < n → u.2.2 x = g x) ∧ isH cy (n + 30) u.2.1 u.2.2 n st0) (zOutN D cy (n + 1) ad sz) (zA (n + 1) ad sz)) 29 245 (zA (n + 1) ad sz) := by
  refine z_metN (by decide) (Nat.le_of_ble_eq_true rfl) (fun p e s m below meth c ls hsz hl C0 hN hr hnm hP hS => ?_)
  subst hsz
  obtain ⟨q0, q_0⟩ : ∃ q, ad n = q := ⟨_, rfl⟩
  have hl : lv_has ls 2 [(0, .ref q0)] := q_0 ▸ hl
  have hx := C0.1; have hb := C0.2.1; have hown := C0.2.2.2.1; have hts := C0.2.2.2.2.1
  have h_0 := h0
  have hA0 : ∀ x, x < n + 1 → ad x = ad x := fun _ _ => rfl
  have hG0 : ∀ x, x < n → g x = g x := fun _ _ => rfl
  refine lv_aload_n hx hb dX1_init_0 rfl (lv_at hl 0 rfl) ?_
  refine z_oi C0 hl.1 q32 (Nat.le_of_ble_eq_true rfl) (Nat.le_of_ble_eq_true rfl) dX1_init_1 ?_
  refine lv_aload_n hx hb dX1_init_4 rfl (lv_at hl 0 rfl) ?_
  refine lv_bipush (v := 7) hx hb dX1_init_5 (by decide) ?_
  refine z_newq (t0 := 3) (N' := 7) C0 hP hS q33 hN.1 rfl (by decide) (by decide) (Nat.le_of_ble_eq_true rfl) (Nat.le_of_ble_eq_true rfl) (Nat.le_of_ble_eq_true rfl) dX1_init_7 (fun ad1 g1 q1 H hgr hq9 hn9 hP hS => ?_)
  have h_0 : g1 (n) = .inr (1, [.null, .int 0, .int 0, .int 0, .int 0, .int 0, .int 0]) := (hgr.2 _ (by omega)).trans h_0
  have q_0 : ad1 (n) = q0 := (hgr.1 _ (by omega)).trans q_0
  have hA0 : ∀ x, x < n + 1 → ad1 x = ad x := fun x h9 => (hgr.1 x (by omega)).trans (hA0 x h9)
  have hG0 : ∀ x, x < n → g1 x = g x := fun x h9 => (hgr.2 x (by omega)).trans (hG0 x h9)
  have h_1 : g1 (n + 1) = .inl (cy 3, 7, .inr (.inr (.inr (.inr (fun _ => none))))) := hn9
  have q_1 : ad1 (n + 1) = q1 := hq9
  refine z_putFq C0 hP hS hnm q_0 (by omega) h_0 fp_X1_11 rfl rfl rfl (Nat.le_of_ble_eq_true rfl) dX1_init_10 (fun g2 H locs hne hs9 hP hS => ?_)
  have h_1 : g2 (n + 1) = .inl (cy 3, 7, .inr (.inr (.inr (.inr (fun _ => none))))) := (hne _ (by omega)).trans h_1
  have h_0 : g2 (n) = .inr (1, [.ref q1, .int 0, .int 0, .int 0, .int 0, .int 0, .int 0]) := hs9
  have hG0 : ∀ x, x < n → g2 x = g x := fun x h9 => (hne x (by omega)).trans (hG0 x h9)
  refine lv_aload_n hx hb dX1_init_13 rfl (lv_at hl 0 rfl) ?_
  refine lv_bipush (v := 40) hx hb dX1_init_14 (by decide) ?_
  refine z_putq C0 hP hS q_0 (by omega) h_0 fp_X1_17 rfl rfl (Nat.le_of_ble_eq_true rfl) dX1_init_16 (fun g3 H locs hne hs9 hP hS => ?_)
  have h_1 : g3 (n + 1) = .inl (cy 3, 7, .inr (.inr (.inr (.inr (fun _ => none))))) := (hne _ (by omega)).trans h_1
  have h_0 : g3 (n) = .inr (1, [.ref q1, .int 40, .int 0, .int 0, .int 0, .int 0, .int 0]) := hs9
  have hG0 : ∀ x, x < n → g3 x = g x := fun x h9 => (hne x (by omega)).trans (hG0 x h9)
  refine lv_aload_n hx hb dX1_init_19 rfl (lv_at hl 0 rfl) ?_
  refine lv_iconst (v := 0) hx hb dX1_init_20 (by decide) ?_
  refine z_putq C0 hP hS q_0 (by omega) h_0 fp_X1_21 rfl rfl (Nat.le_of_ble_eq_true rfl) dX1_init_21 (fun g4 H locs hne hs9 hP hS => ?_)
  have h_1 : g4 (n + 1) = .inl (cy 3, 7, .inr (.inr (.inr (.inr (fun _ => none))))) := (hne _ (by omega)).trans h_1
  have h_0 : g4 (n) = .inr (1, [.ref q1, .int 40, .int 0, .int 0, .int 0, .int 0, .int 0]) := hs9
  have hG0 : ∀ x, x < n → g4 x = g x := fun x h9 => (hne x (by omega)).trans (hG0 x h9)
  refine lv_aload_n hx hb dX1_init_24 rfl (lv_at hl 0 rfl) ?_
  refine lv_iconst (v := 0) hx hb dX1_init_25 (by decide) ?_
  refine z_putq C0 hP hS q_0 (by omega) h_0 fp_X1_24 rfl rfl (Nat.le_of_ble_eq_true rfl) dX1_init_26 (fun g5 H locs hne hs9 hP hS => ?_)
  have h_1 : g5 (n + 1) = .inl (cy 3, 7, .inr (.inr (.inr (.inr (fun _ => none))))) := (hne _ (by omega)).trans h_1
  have h_0 : g5 (n) = .inr (1, [.ref q1, .int 40, .int 0, .int 0, .int 0, .int 0, .int 0]) := hs9
  have hG0 : ∀ x, x < n → g5 x = g x := fun x h9 => (hne x (by omega)).trans (hG0 x h9)
  refine lv_aload_n hx hb dX1_init_29 rfl (lv_at hl 0 rfl) ?_
  refine lv_iconst (v := 0) hx hb dX1_init_30 (by decide) ?_
  refine z_putq C0 hP hS q_0 (by omega) h_0 fp_X1_27 rfl rfl (Nat.le_of_ble_eq_true rfl) dX1_init_31 (fun g6 H locs hne hs9 hP hS => ?_)
  have h_1 : g6 (n + 1) = .inl (cy 3, 7, .inr (.inr (.inr (.inr (fun _ => none))))) := (hne _ (by omega)).trans h_1
  have h_0 : g6 (n) = .inr (1, [.ref q1, .int 40, .int 0, .int 0, .int 0, .int 0, .int 0]) := hs9
  have hG0 : ∀ x, x < n → g6 x = g x := fun x h9 => (hne x (by omega)).trans (hG0 x h9)
  refine lv_aload_n hx hb dX1_init_34 rfl (lv_at hl 0 rfl) ?_
  refine lv_iconst (v := 0) hx hb dX1_init_35 (by decide) ?_
  refine z_putq C0 hP hS q_0 (by omega) h_0 fp_X1_30 rfl rfl (Nat.le_of_ble_eq_true rfl) dX1_init_36 (fun g7 H locs hne hs9 hP hS => ?_)
  have h_1 : g7 (n + 1) = .inl (cy 3, 7, .inr (.inr (.inr (.inr (fun _ => none))))) := (hne _ (by omega)).trans h_1
  have h_0 : g7 (n) = .inr (1, [.ref q1, .int 40, .int 0, .int 0, .int 0, .int 0, .int 0]) := hs9
  have hG0 : ∀ x, x < n → g7 x = g x := fun x h9 => (hne x (by omega)).trans (hG0 x h9)
  refine lv_aload_n hx hb dX1_init_39 rfl (lv_at hl 0 rfl) ?_
  refine lv_iconst (v := 0) hx hb dX1_init_40 (by decide) ?_
  refine z_putq C0 hP hS q_0 (by omega) h_0 fp_X1_33 rfl rfl (Nat.le_of_ble_eq_true rfl) dX1_init_41 (fun g8 H locs hne hs9 hP hS => ?_)
  have h_1 : g8 (n + 1) = .inl (cy 3, 7, .inr (.inr (.inr (.inr (fun _ => none))))) := (hne _ (by omega)).trans h_1
  have h_0 : g8 (n) = .inr (1, [.ref q1, .int 40, .int 0, .int 0, .int 0, .int 0, .int 0]) := hs9
  have hG0 : ∀ x, x < n → g8 x = g x := fun x h9 => (hne x (by omega)).trans (hG0 x h9)
  refine lv_iconst (v := nI 0) hx hb dX1_init_44 (by decide) ?_
  refine lv_istore_n (lv' := [(1, .int (nI 0)), (0, .ref q0)]) hx hb dX1_init_45 rfl hl (by decide) rfl (fun ls hl => ?_)
  have lp : ∀ (N kz : Nat), kz ≤ 7 → 7 - kz < N → ∀ (ad1 : Nat → Nat) (g1 : Nat → va_E) (rw : Nat → Option Nat) (H : Heap) (locs : List Loc) (ls : Array Slot), ad1 n = q0 → ad1 (n + 1) = q1 → (∀ x, x < n + 1 → ad1 x = ad x) → (∀ x, x < n → g1 x = g x) → g1 n = .inr (1, [.ref q1, .int 40, .int 0, .int 0, .int 0, .int 0, .int 0]) → g1 (n + 1) = .inl (cy 3, 7, .inr (.inr (.inr (.inr rw)))) → (∀ i, i < kz → rw i = some (ad1 (n + 2 + 4 * i)) ∧ isC cy (n + 2 + 4 * kz) ad1 g1 (n + 2 + 4 * i) (fun _ => 0) (fun _ => 0) (fun _ => 0) 0 0 0) → zP D (n + 2 + 4 * kz) ad1 g1 (zA (n + 1) ad s.heap.size) H → va_S (zA (n + 1) ad s.heap.size) s.heap H locs → lv_has ls 2 [(0, .ref q0), (1, .int (nI kz))] → W p l e ({ frames := 3, cells := 29, slots := 245, locals := 70 } : Room) s m [.ref (ad n)].toArray below meth c H locs (1 + 4 * kz) (7 + 34 * kz) (MQ below (va_Qv (fun u : zU => u.1 = n + 30 ∧ (∀ x, x < n + 1 → u.2.1 x = ad x) ∧ (∀ x, x < n → u.2.2 x = g x) ∧ isH cy (n + 30) u.2.1 u.2.2 n st0) (zOutN D cy (n + 1) ad s.heap.size) (zA (n + 1) ad s.heap.size)) [.ref (ad n)].toArray s 29 245 (zA (n + 1) ad s.heap.size)) (F0 m 46 ls []) := by
    intro N
    induction N with
    | zero => intro kz hk hN9; exact absurd hN9 (Nat.not_lt_zero _)
    | succ N ih =>
      intro kz hk hN9 ad1 g1 rw H locs ls q_0 q_1 hA0 hG0 h_0 h_1 hrw hP hS hl
      refine lv_iload_n hx hb dX1_init_46 rfl (lv_at hl 1 rfl) ?_
      refine lv_bipush (v := 7) hx hb dX1_init_47 (by decide) ?_
      refine lv_icmp_ge (tgt := 71) hx hb dX1_init_49 (by decide) (fun c9 => ?_) (fun c9 => ?_)
      · have hk2 : kz = 7 := by have := z_ge_t (b := 7) c9 (by omega) (by omega); omega
        subst hk2
        rw [show n + 2 + 4 * 7 = n + 30 by omega] at hP
        rw [show n + 2 + 4 * 7 = n + 30 by omega] at hrw
        exact z_vretN C0 hP hS hr ⟨rfl, hA0, hG0, ⟨rw, ⟨by omega, by show g1 n = .inr (1, [.ref (ad1 (n + 1)), .int 40, .int 0, .int 0, .int 0, .int 0, .int 0]); rw [h_0, q_1], h_1⟩, fun i hi => (hrw i hi).1, fun i hi => isCs.of0 (hrw i hi).2⟩⟩ dX1_init_71
      · have hk2 : kz < 7 := z_ge_f (b := 7) c9 (by omega) (by omega)
        refine lv_aload_n hx hb dX1_init_52 rfl (lv_at hl 0 rfl) ?_
        refine z_getq C0 hP q_0 (by omega) h_0 fd_X1_11 rfl dX1_init_53 ?_
        refine lv_iload_n hx hb dX1_init_56 rfl (lv_at hl 1 rfl) ?_
        refine z_newc C0 hP hS zn_X1_9 (by show 1 + 4 * kz + 1 ≤ 29; omega) (by show 7 + 34 * kz + 6 ≤ 245; omega) dX1_init_57 (fun ad2 g2 q2 H hgr hq9 hn9 hP hS => ?_)
        have h_0 : g2 n = .inr (1, [.ref q1, .int 40, .int 0, .int 0, .int 0, .int 0, .int 0]) := (hgr.2 _ (by omega)).trans h_0
        have h_1 : g2 (n + 1) = .inl (cy 3, 7, .inr (.inr (.inr (.inr rw)))) := (hgr.2 _ (by omega)).trans h_1
        have q_0 : ad2 n = q0 := (hgr.1 _ (by omega)).trans q_0
        have q_1 : ad2 (n + 1) = q1 := (hgr.1 _ (by omega)).trans q_1
        have hA0 : ∀ x, x < n + 1 → ad2 x = ad x := fun x h9 => (hgr.1 x (by omega)).trans (hA0 x h9)
        have hG0 : ∀ x, x < n → g2 x = g x := fun x h9 => (hgr.2 x (by omega)).trans (hG0 x h9)
        have hrw : ∀ i, i < kz → rw i = some (ad2 (n + 2 + 4 * i)) ∧ isC cy (n + 2 + 4 * kz + 1) ad2 g2 (n + 2 + 4 * i) (fun _ => 0) (fun _ => 0) (fun _ => 0) 0 0 0 := fun i hi => ⟨by rw [hgr.1 _ (by omega)]; exact (hrw i hi).1, (hrw i hi).2.gr (by omega) hgr.1 (fun x9 h8 h9 => hgr.2 x9 (by omega))⟩
        refine lv_dup hx hb dX1_init_60 rfl ?_
        refine z_callvN C0 hP hS (z_runIn (rest := [.ref q2, .int (nI kz), .ref q1]) C0 hN hP hl.1 (m_X0_init l _ hn9) zl_X1_36 hN.2.2.1 hq9 (Nat.le_of_ble_eq_true rfl) rfl rfl ⟨(Nat.le_of_ble_eq_true rfl), (Nat.le_of_ble_eq_true rfl)⟩ ⟨by show 1 + 4 * kz + 1 + 3 ≤ 29; omega, by show 7 + 34 * kz + 6 + 28 ≤ 245; omega⟩ dX1_init_61) (fun K1 ad3 g3 H locs hP hS hp => ?_)
        obtain ⟨hK1, hgr1, hgr2, h9n⟩ := hp
        dsimp only at hK1 hgr1 hgr2 h9n
        subst hK1
        have h_0 : g3 n = .inr (1, [.ref q1, .int 40, .int 0, .int 0, .int 0, .int 0, .int 0]) := (hgr2 _ (by omega)).trans h_0
        have h_1 : g3 (n + 1) = .inl (cy 3, 7, .inr (.inr (.inr (.inr rw)))) := (hgr2 _ (by omega)).trans h_1
        have q_0 : ad3 n = q0 := (hgr1 _ (by omega)).trans q_0
        have q_1 : ad3 (n + 1) = q1 := (hgr1 _ (by omega)).trans q_1
        have q_2 : ad3 (n + 2 + 4 * kz) = q2 := (hgr1 _ (by omega)).trans hq9
        have hA0 : ∀ x, x < n + 1 → ad3 x = ad x := fun x h9 => (hgr1 x (by omega)).trans (hA0 x h9)
        have hG0 : ∀ x, x < n → g3 x = g x := fun x h9 => (hgr2 x (by omega)).trans (hG0 x h9)
        have hrw : ∀ i, i < kz → rw i = some (ad3 (n + 2 + 4 * i)) ∧ isC cy (n + 2 + 4 * kz + 4) ad3 g3 (n + 2 + 4 * i) (fun _ => 0) (fun _ => 0) (fun _ => 0) 0 0 0 := fun i hi => ⟨by rw [hgr1 _ (by omega)]; exact (hrw i hi).1, (hrw i hi).2.gr (by omega) (fun x9 h9 => hgr1 x9 (by omega)) (fun x9 h8 h9 => hgr2 x9 (by omega))⟩
        obtain ⟨vs9, ho9⟩ : ∃ vs9, g3 (n + 2 + 4 * kz) = .inr (0, vs9) := ⟨_, h9n.o⟩
        refine z_aastq C0 hP hS q_1 q_2 (by omega) h_1 (ci := 0) rfl (t0 := 3) rfl (by omega) ho9 (zIx_nI hk2 (by decide)) dX1_init_64 (fun g4 H locs hne hs9 hP hS => ?_)
        refine lv_iinc (v := nI (kz + 1)) (lv' := [(1, .int (nI (kz + 1))), (0, .ref q0)]) hx hb dX1_init_65 hl (k := 1) rfl (z_inc _) (by decide) rfl (fun ls hl => ?_)
        refine lv_goto (tgt := 46) hx hb dX1_init_68 (by decide) ?_
        have ec : 1 + 4 * kz + 1 + 3 = 1 + 4 * (kz + 1) := by omega
        have es : 7 + 34 * kz + 6 + 28 = 7 + 34 * (kz + 1) := by omega
        have eK : n + 2 + 4 * kz + 4 = n + 2 + 4 * (kz + 1) := by omega
        rw [ec, es]
        rw [eK] at hP hrw h9n
        refine ih (kz + 1) (by omega) (by omega) ad3 g4 _ H locs ls q_0 q_1 hA0 (fun x h9 => (hne x (by omega)).trans (hG0 x h9)) ((hne n (by omega)).trans h_0) hs9 (fun i hi => ?_) hP hS (lv_sub hl [1, 0] rfl)
        by_cases hik : i = kz
        · subst hik
          exact ⟨va_up_self _ _ _, h9n.kept (P := zOne (n + 1)) (fun x9 h9 => hne x9 h9) ⟨by dsimp only [zOne]; omega, by dsimp only [zOne]; omega, by dsimp only [zOne]; omega, by dsimp only [zOne]; omega⟩⟩
        · exact ⟨(va_up_ne _ _ hik).trans (hrw i (by omega)).1, (hrw i (by omega)).2.kept (P := zOne (n + 1)) (fun x9 h9 => hne x9 h9) ⟨by dsimp only [zOne]; omega, by dsimp only [zOne]; omega, by dsimp only [zOne]; omega, by dsimp only [zOne]; omega⟩⟩
  refine lp _ 0 (Nat.zero_le _) (Nat.lt_succ_self _) _ _ (fun _ => none) H _ ls q_0 q_1 hA0 hG0 h_0 h_1 (fun i hi => absurd hi (Nat.not_lt_zero _)) hP hS (lv_sub hl [1, 0] rfl)
set_option maxHeartbeats 4000000 in
set_option maxRecDepth 100000 in
theorem m_X2_init (l : Launch) {D : va_G} {cy : Nat → ClassId} {ad : Nat → Nat} {g : Nat → va_E} (sz : Nat) {n : Nat} (h0 : g (n) = .inr (2, [.null, .int 0, .int 0])) : Met l yX2_init (zs yX2_init cX2_init 2 none) ({ frames := 4, cells := 181, slots := 1518, locals := 100 } : Room) (va_Pc [.ref (ad (n))] (zInN D cy (n + 1) ad g sz)) (va_Qv (fun u : zU => u.1 = n + 182 ∧ (∀ x, x < n + 1 → u.2.1 x = ad x) ∧ (∀ x, x < n → u.2.2 x = g x) ∧ isHi cy (n + 182) u.2.1 u.2.2 n (fun _ => st0) 0 0) (zOutN D cy (n + 1) ad sz) (zA (n + 1) ad sz)) 181 1518 (zA (n + 1) ad sz) := by
  refine z_metN (by decide) (Nat.le_of_ble_eq_true rfl) (fun p e s m below meth c ls hsz hl C0 hN hr hnm hP hS => ?_)
  subst hsz
  obtain ⟨q0, q_0⟩ : ∃ q, ad n = q := ⟨_, rfl⟩
  have hl : lv_has ls 2 [(0, .ref q0)] := q_0 ▸ hl
  have hx := C0.1; have hb := C0.2.1; have hown := C0.2.2.2.1; have hts := C0.2.2.2.2.1
  have h_0 := h0
  have hA0 : ∀ x, x < n + 1 → ad x = ad x := fun _ _ => rfl
  have hG0 : ∀ x, x < n → g x = g x := fun _ _ => rfl
  refine lv_aload_n hx hb dX2_init_0 rfl (lv_at hl 0 rfl) ?_
  refine z_oi C0 hl.1 q103 (Nat.le_of_ble_eq_true rfl) (Nat.le_of_ble_eq_true rfl) dX2_init_1 ?_
  refine lv_aload_n hx hb dX2_init_4 rfl (lv_at hl 0 rfl) ?_
  refine lv_bipush (v := 6) hx hb dX2_init_5 (by decide) ?_
  refine z_newq (t0 := 4) (N' := 6) C0 hP hS q104 hN.2.1 rfl (by decide) (by decide) (Nat.le_of_ble_eq_true rfl) (Nat.le_of_ble_eq_true rfl) (Nat.le_of_ble_eq_true rfl) dX2_init_7 (fun ad1 g1 q1 H hgr hq9 hn9 hP hS => ?_)
  have h_0 : g1 (n) = .inr (2, [.null, .int 0, .int 0]) := (hgr.2 _ (by omega)).trans h_0
  have q_0 : ad1 (n) = q0 := (hgr.1 _ (by omega)).trans q_0
  have hA0 : ∀ x, x < n + 1 → ad1 x = ad x := fun x h9 => (hgr.1 x (by omega)).trans (hA0 x h9)
  have hG0 : ∀ x, x < n → g1 x = g x := fun x h9 => (hgr.2 x (by omega)).trans (hG0 x h9)
  have h_1 : g1 (n + 1) = .inl (cy 4, 6, .inr (.inr (.inr (.inr (fun _ => none))))) := hn9
  have q_1 : ad1 (n + 1) = q1 := hq9
  refine z_putFq C0 hP hS hnm q_0 (by omega) h_0 fp_X2_11 rfl rfl rfl (Nat.le_of_ble_eq_true rfl) dX2_init_10 (fun g2 H locs hne hs9 hP hS => ?_)
  have h_1 : g2 (n + 1) = .inl (cy 4, 6, .inr (.inr (.inr (.inr (fun _ => none))))) := (hne _ (by omega)).trans h_1
  have h_0 : g2 (n) = .inr (2, [.ref q1, .int 0, .int 0]) := hs9
  have hG0 : ∀ x, x < n → g2 x = g x := fun x h9 => (hne x (by omega)).trans (hG0 x h9)
  refine lv_aload_n hx hb dX2_init_13 rfl (lv_at hl 0 rfl) ?_
  refine lv_iconst (v := 0) hx hb dX2_init_14 (by decide) ?_
  refine z_putq C0 hP hS q_0 (by omega) h_0 fp_X2_17 rfl rfl (Nat.le_of_ble_eq_true rfl) dX2_init_15 (fun g3 H locs hne hs9 hP hS => ?_)
  have h_1 : g3 (n + 1) = .inl (cy 4, 6, .inr (.inr (.inr (.inr (fun _ => none))))) := (hne _ (by omega)).trans h_1
  have h_0 : g3 (n) = .inr (2, [.ref q1, .int 0, .int 0]) := hs9
  have hG0 : ∀ x, x < n → g3 x = g x := fun x h9 => (hne x (by omega)).trans (hG0 x h9)
  refine lv_aload_n hx hb dX2_init_18 rfl (lv_at hl 0 rfl) ?_
  refine lv_iconst (v := 0) hx hb dX2_init_19 (by decide) ?_
  refine z_putq C0 hP hS q_0 (by omega) h_0 fp_X2_21 rfl rfl (Nat.le_of_ble_eq_true rfl) dX2_init_20 (fun g4 H locs hne hs9 hP hS => ?_)
  have h_1 : g4 (n + 1) = .inl (cy 4, 6, .inr (.inr (.inr (.inr (fun _ => none))))) := (hne _ (by omega)).trans h_1
  have h_0 : g4 (n) = .inr (2, [.ref q1, .int 0, .int 0]) := hs9
  have hG0 : ∀ x, x < n → g4 x = g x := fun x h9 => (hne x (by omega)).trans (hG0 x h9)
  refine lv_iconst (v := nI 0) hx hb dX2_init_23 (by decide) ?_
  refine lv_istore_n (lv' := [(1, .int (nI 0)), (0, .ref q0)]) hx hb dX2_init_24 rfl hl (by decide) rfl (fun ls hl => ?_)
  have lp : ∀ (N kz : Nat), kz ≤ 6 → 6 - kz < N → ∀ (ad1 : Nat → Nat) (g1 : Nat → va_E) (rw : Nat → Option Nat) (H : Heap) (locs : List Loc) (ls : Array Slot), ad1 n = q0 → ad1 (n + 1) = q1 → (∀ x, x < n + 1 → ad1 x = ad x) → (∀ x, x < n → g1 x = g x) → g1 n = .inr (2, [.ref q1, .int 0, .int 0]) → g1 (n + 1) = .inl (cy 4, 6, .inr (.inr (.inr (.inr rw)))) → (∀ i, i < kz → rw i = some (ad1 (n + 2 + 30 * i)) ∧ isH cy (n + 2 + 30 * kz) ad1 g1 (n + 2 + 30 * i) st0) → zP D (n + 2 + 30 * kz) ad1 g1 (zA (n + 1) ad s.heap.size) H → va_S (zA (n + 1) ad s.heap.size) s.heap H locs → lv_has ls 2 [(0, .ref q0), (1, .int (nI kz))] → W p l e ({ frames := 4, cells := 181, slots := 1518, locals := 100 } : Room) s m [.ref (ad n)].toArray below meth c H locs (1 + 30 * kz) (6 + 252 * kz) (MQ below (va_Qv (fun u : zU => u.1 = n + 182 ∧ (∀ x, x < n + 1 → u.2.1 x = ad x) ∧ (∀ x, x < n → u.2.2 x = g x) ∧ isHi cy (n + 182) u.2.1 u.2.2 n (fun _ => st0) 0 0) (zOutN D cy (n + 1) ad s.heap.size) (zA (n + 1) ad s.heap.size)) [.ref (ad n)].toArray s 181 1518 (zA (n + 1) ad s.heap.size)) (F0 m 25 ls []) := by
    intro N
    induction N with
    | zero => intro kz hk hN9; exact absurd hN9 (Nat.not_lt_zero _)
    | succ N ih =>
      intro kz hk hN9 ad1 g1 rw H locs ls q_0 q_1 hA0 hG0 h_0 h_1 hrw hP hS hl
      refine lv_iload_n hx hb dX2_init_25 rfl (lv_at hl 1 rfl) ?_
      refine lv_bipush (v := 6) hx hb dX2_init_26 (by decide) ?_
      refine lv_icmp_ge (tgt := 50) hx hb dX2_init_28 (by decide) (fun c9 => ?_) (fun c9 => ?_)
      · have hk2 : kz = 6 := by have := z_ge_t (b := 6) c9 (by omega) (by omega); omega
        subst hk2
        rw [show n + 2 + 30 * 6 = n + 182 by omega] at hP
        rw [show n + 2 + 30 * 6 = n + 182 by omega] at hrw
        exact z_vretN C0 hP hS hr ⟨rfl, hA0, hG0, ⟨rw, ⟨by omega, by show g1 n = .inr (2, [.ref (ad1 (n + 1)), .int 0, .int 0]); rw [h_0, q_1], h_1⟩, fun i hi => (hrw i hi).1, fun i hi => (hrw i hi).2⟩⟩ dX2_init_50
      · have hk2 : kz < 6 := z_ge_f (b := 6) c9 (by omega) (by omega)
        refine lv_aload_n hx hb dX2_init_31 rfl (lv_at hl 0 rfl) ?_
        refine z_getq C0 hP q_0 (by omega) h_0 fd_X2_11 rfl dX2_init_32 ?_
        refine lv_iload_n hx hb dX2_init_35 rfl (lv_at hl 1 rfl) ?_
        refine z_newc C0 hP hS zn_X2_9 (by show 1 + 30 * kz + 1 ≤ 181; omega) (by show 6 + 252 * kz + 7 ≤ 1518; omega) dX2_init_36 (fun ad2 g2 q2 H hgr hq9 hn9 hP hS => ?_)
        have h_0 : g2 n = .inr (2, [.ref q1, .int 0, .int 0]) := (hgr.2 _ (by omega)).trans h_0
        have h_1 : g2 (n + 1) = .inl (cy 4, 6, .inr (.inr (.inr (.inr rw)))) := (hgr.2 _ (by omega)).trans h_1
        have q_0 : ad2 n = q0 := (hgr.1 _ (by omega)).trans q_0
        have q_1 : ad2 (n + 1) = q1 := (hgr.1 _ (by omega)).trans q_1
        have hA0 : ∀ x, x < n + 1 → ad2 x = ad x := fun x h9 => (hgr.1 x (by omega)).trans (hA0 x h9)
        have hG0 : ∀ x, x < n → g2 x = g x := fun x h9 => (hgr.2 x (by omega)).trans (hG0 x h9)
        have hrw : ∀ i, i < kz → rw i = some (ad2 (n + 2 + 30 * i)) ∧ isH cy (n + 2 + 30 * kz + 1) ad2 g2 (n + 2 + 30 * i) st0 := fun i hi => ⟨by rw [hgr.1 _ (by omega)]; exact (hrw i hi).1, (hrw i hi).2.gr (by omega) hgr.1 (fun x9 h8 h9 => hgr.2 x9 (by omega))⟩
        refine lv_dup hx hb dX2_init_39 rfl ?_
        refine z_callvN C0 hP hS (z_runI (rest := [.ref q2, .int (nI kz), .ref q1]) C0 hN hP hl.1 (m_X1_init l _ hn9) zl_X2_24 hq9 (Nat.le_of_ble_eq_true rfl) rfl rfl ⟨(Nat.le_of_ble_eq_true rfl), (Nat.le_of_ble_eq_true rfl)⟩ ⟨by show 1 + 30 * kz + 1 + 29 ≤ 181; omega, by show 6 + 252 * kz + 7 + 245 ≤ 1518; omega⟩ dX2_init_40) (fun K1 ad3 g3 H locs hP hS hp => ?_)
        obtain ⟨hK1, hgr1, hgr2, h9n⟩ := hp
        dsimp only at hK1 hgr1 hgr2 h9n
        subst hK1
        have h_0 : g3 n = .inr (2, [.ref q1, .int 0, .int 0]) := (hgr2 _ (by omega)).trans h_0
        have h_1 : g3 (n + 1) = .inl (cy 4, 6, .inr (.inr (.inr (.inr rw)))) := (hgr2 _ (by omega)).trans h_1
        have q_0 : ad3 n = q0 := (hgr1 _ (by omega)).trans q_0
        have q_1 : ad3 (n + 1) = q1 := (hgr1 _ (by omega)).trans q_1
        have q_2 : ad3 (n + 2 + 30 * kz) = q2 := (hgr1 _ (by omega)).trans hq9
        have hA0 : ∀ x, x < n + 1 → ad3 x = ad x := fun x h9 => (hgr1 x (by omega)).trans (hA0 x h9)
        have hG0 : ∀ x, x < n → g3 x = g x := fun x h9 => (hgr2 x (by omega)).trans (hG0 x h9)
        have hrw : ∀ i, i < kz → rw i = some (ad3 (n + 2 + 30 * i)) ∧ isH cy (n + 2 + 30 * kz + 30) ad3 g3 (n + 2 + 30 * i) st0 := fun i hi => ⟨by rw [hgr1 _ (by omega)]; exact (hrw i hi).1, (hrw i hi).2.gr (by omega) (fun x9 h9 => hgr1 x9 (by omega)) (fun x9 h8 h9 => hgr2 x9 (by omega))⟩
        obtain ⟨vs9, ho9⟩ : ∃ vs9, g3 (n + 2 + 30 * kz) = .inr (1, vs9) := h9n.rc
        refine z_aastq C0 hP hS q_1 q_2 (by omega) h_1 (ci := 1) rfl (t0 := 4) rfl (by omega) ho9 (zIx_nI hk2 (by decide)) dX2_init_43 (fun g4 H locs hne hs9 hP hS => ?_)
        refine lv_iinc (v := nI (kz + 1)) (lv' := [(1, .int (nI (kz + 1))), (0, .ref q0)]) hx hb dX2_init_44 hl (k := 1) rfl (z_inc _) (by decide) rfl (fun ls hl => ?_)
        refine lv_goto (tgt := 25) hx hb dX2_init_47 (by decide) ?_
        have ec : 1 + 30 * kz + 1 + 29 = 1 + 30 * (kz + 1) := by omega
        have es : 6 + 252 * kz + 7 + 245 = 6 + 252 * (kz + 1) := by omega
        have eK : n + 2 + 30 * kz + 30 = n + 2 + 30 * (kz + 1) := by omega
        rw [ec, es]
        rw [eK] at hP hrw h9n
        refine ih (kz + 1) (by omega) (by omega) ad3 g4 _ H locs ls q_0 q_1 hA0 (fun x h9 => (hne x (by omega)).trans (hG0 x h9)) ((hne n (by omega)).trans h_0) hs9 (fun i hi => ?_) hP hS (lv_sub hl [1, 0] rfl)
        by_cases hik : i = kz
        · subst hik
          exact ⟨va_up_self _ _ _, h9n.kept (P := zOne (n + 1)) (fun x9 h9 => hne x9 h9) (by intro z9 h8 h9; dsimp only [zOne]; omega)⟩
        · exact ⟨(va_up_ne _ _ hik).trans (hrw i (by omega)).1, (hrw i (by omega)).2.kept (P := zOne (n + 1)) (fun x9 h9 => hne x9 h9) (by intro z9 h8 h9; dsimp only [zOne]; omega)⟩
  refine lp _ 0 (Nat.zero_le _) (Nat.lt_succ_self _) _ _ (fun _ => none) H _ ls q_0 q_1 hA0 hG0 h_0 h_1 (fun i hi => absurd hi (Nat.not_lt_zero _)) hP hS (lv_sub hl [1, 0] rfl)
