set_option maxHeartbeats 4000000 in
set_option maxRecDepth 100000 in
theorem m_X4_init (l : Launch) {D : va_G} {cy : Nat → ClassId} {ad : Nat → Nat} {g : Nat → va_E} (sz : Nat) (h0 : g (0) = .inr (4, [.null, .null, .null, .null, .int 0, .null, .null, .null])) : Met l yX4_init (zs yX4_init cX4_init 1 none) ({ frames := 5, cells := 220, slots := 1881, locals := 130 } : Room) (va_Pc [.ref (ad (0))] (zInN D cy (1) ad g sz)) (va_Qv (fun u : zU => u.1 = 221 ∧ (∀ x, x < 1 → u.2.1 x = ad x) ∧ (∀ x, x < 0 → u.2.2 x = g x) ∧ isT cy 221 u.2.1 u.2.2 st0 (fun _ => st0) 0 0 (fun _ => none) (fun _ => st0) (fun _ => 0) 0) (zOutN D cy (1) ad sz) (zA (1) ad sz)) 220 1881 (zA (1) ad sz) := by
  refine z_metN (by decide) (Nat.le_of_ble_eq_true rfl) (fun p e s m below meth c ls hsz hl C0 hN hr hnm hP hS => ?_)
  subst hsz
  obtain ⟨q0, q_0⟩ : ∃ q, ad (0) = q := ⟨_, rfl⟩
  have hl : lv_has ls 1 [(0, .ref q0)] := q_0 ▸ hl
  have hx := C0.1; have hb := C0.2.1; have hown := C0.2.2.2.1; have hts := C0.2.2.2.2.1
  have h_0 := h0
  have hA0 : ∀ x, x < 1 → ad x = ad x := fun _ _ => rfl
  have hG0 : ∀ x, x < 0 → g x = g x := fun _ _ => rfl
  refine lv_aload_n hx hb dX4_init_0 rfl (lv_at hl 0 rfl) ?_
  refine z_oi C0 hl.1 q24 (Nat.le_of_ble_eq_true rfl) (Nat.le_of_ble_eq_true rfl) dX4_init_1 ?_
  refine lv_aload_n hx hb dX4_init_4 rfl (lv_at hl 0 rfl) ?_
  refine z_newc C0 hP hS zn_X4_7 (Nat.le_of_ble_eq_true rfl) (Nat.le_of_ble_eq_true rfl) dX4_init_5 (fun ad1 g1 q1 H hgr hq9 hn9 hP hS => ?_)
  have h_0 : g1 (0) = .inr (4, [.null, .null, .null, .null, .int 0, .null, .null, .null]) := (hgr.2 _ (by omega)).trans h_0
  have q_0 : ad1 (0) = q0 := (hgr.1 _ (by omega)).trans q_0
  have hA0 : ∀ x, x < 1 → ad1 x = ad x := fun x h9 => (hgr.1 x (by omega)).trans (hA0 x h9)
  have hG0 : ∀ x, x < 0 → g1 x = g x := fun x h9 => (hgr.2 x (by omega)).trans (hG0 x h9)
  have h_1 : g1 (1) = .inr (1, [.null, .int 0, .int 0, .int 0, .int 0, .int 0, .int 0]) := hn9
  have q_1 : ad1 (1) = q1 := hq9
  refine lv_dup hx hb dX4_init_8 rfl ?_
  refine z_callvN C0 hP hS (z_runI (rest := [.ref q1, .ref q0]) C0 hN hP hl.1 (m_X1_init l _ h_1) zl_X4_9 q_1 (Nat.le_of_ble_eq_true rfl) rfl rfl ⟨(Nat.le_of_ble_eq_true rfl), (Nat.le_of_ble_eq_true rfl)⟩ ⟨(Nat.le_of_ble_eq_true rfl), (Nat.le_of_ble_eq_true rfl)⟩ dX4_init_9) (fun K1 ad2 g2 H locs hP hS hp => ?_)
  obtain ⟨hK1, hgr1, hgr2, h9n⟩ := hp
  dsimp only at hK1 hgr1 hgr2 h9n
  subst hK1
  have h_0 : g2 (0) = .inr (4, [.null, .null, .null, .null, .int 0, .null, .null, .null]) := (hgr2 _ (by omega)).trans h_0
  have q_0 : ad2 (0) = q0 := (hgr1 _ (by omega)).trans q_0
  have q_1 : ad2 (1) = q1 := (hgr1 _ (by omega)).trans q_1
  have hA0 : ∀ x, x < 1 → ad2 x = ad x := fun x h9 => (hgr1 x (by omega)).trans (hA0 x h9)
  have hG0 : ∀ x, x < 0 → g2 x = g x := fun x h9 => (hgr2 x (by omega)).trans (hG0 x h9)
  have h_1 := h9n
  refine z_putFq C0 hP hS hnm q_0 (by omega) h_0 fp_X4_10 rfl rfl rfl (Nat.le_of_ble_eq_true rfl) dX4_init_12 (fun g3 H locs hne hs9 hP hS => ?_)
  have h_1 := h_1.kept (g1 := g3) (P := zOne (0)) (fun x9 h9 => hne x9 h9) (by intro z9 h8 h9; dsimp only [zOne]; omega)
  have h_0 : g3 (0) = .inr (4, [.ref q1, .null, .null, .null, .int 0, .null, .null, .null]) := hs9
  have hG0 : ∀ x, x < 0 → g3 x = g x := fun x h9 => (hne x (by omega)).trans (hG0 x h9)
  refine lv_aload_n hx hb dX4_init_15 rfl (lv_at hl 0 rfl) ?_
  refine z_newc C0 hP hS zn_X4_16 (Nat.le_of_ble_eq_true rfl) (Nat.le_of_ble_eq_true rfl) dX4_init_16 (fun ad4 g4 q31 H hgr hq9 hn9 hP hS => ?_)
  have h_0 : g4 (0) = .inr (4, [.ref q1, .null, .null, .null, .int 0, .null, .null, .null]) := (hgr.2 _ (by omega)).trans h_0
  have h_1 := h_1.gr (K1 := 32) (by omega) hgr.1 (fun x9 h8 h9 => hgr.2 x9 (by omega))
  have q_0 : ad4 (0) = q0 := (hgr.1 _ (by omega)).trans q_0
  have q_1 : ad4 (1) = q1 := (hgr.1 _ (by omega)).trans q_1
  have hA0 : ∀ x, x < 1 → ad4 x = ad x := fun x h9 => (hgr.1 x (by omega)).trans (hA0 x h9)
  have hG0 : ∀ x, x < 0 → g4 x = g x := fun x h9 => (hgr.2 x (by omega)).trans (hG0 x h9)
  have h_31 : g4 (31) = .inr (2, [.null, .int 0, .int 0]) := hn9
  have q_31 : ad4 (31) = q31 := hq9
  refine lv_dup hx hb dX4_init_19 rfl ?_
  refine z_callvN C0 hP hS (z_runI (rest := [.ref q31, .ref q0]) C0 hN hP hl.1 (m_X2_init l _ h_31) zl_X4_18 q_31 (Nat.le_of_ble_eq_true rfl) rfl rfl ⟨(Nat.le_of_ble_eq_true rfl), (Nat.le_of_ble_eq_true rfl)⟩ ⟨(Nat.le_of_ble_eq_true rfl), (Nat.le_of_ble_eq_true rfl)⟩ dX4_init_20) (fun K1 ad5 g5 H locs hP hS hp => ?_)
  obtain ⟨hK1, hgr1, hgr2, h9n⟩ := hp
  dsimp only at hK1 hgr1 hgr2 h9n
  subst hK1
  have h_0 : g5 (0) = .inr (4, [.ref q1, .null, .null, .null, .int 0, .null, .null, .null]) := (hgr2 _ (by omega)).trans h_0
  have h_1 := h_1.gr (K1 := 213) (by omega) (fun x9 h9 => hgr1 x9 (by omega)) (fun x9 h8 h9 => hgr2 x9 (by omega))
  have q_0 : ad5 (0) = q0 := (hgr1 _ (by omega)).trans q_0
  have q_1 : ad5 (1) = q1 := (hgr1 _ (by omega)).trans q_1
  have q_31 : ad5 (31) = q31 := (hgr1 _ (by omega)).trans q_31
  have hA0 : ∀ x, x < 1 → ad5 x = ad x := fun x h9 => (hgr1 x (by omega)).trans (hA0 x h9)
  have hG0 : ∀ x, x < 0 → g5 x = g x := fun x h9 => (hgr2 x (by omega)).trans (hG0 x h9)
  have h_31 := h9n
  refine z_putFq C0 hP hS hnm q_0 (by omega) h_0 fp_X4_19 rfl rfl rfl (Nat.le_of_ble_eq_true rfl) dX4_init_23 (fun g6 H locs hne hs9 hP hS => ?_)
  have h_1 := h_1.kept (g1 := g6) (P := zOne (0)) (fun x9 h9 => hne x9 h9) (by intro z9 h8 h9; dsimp only [zOne]; omega)
  have h_31 := h_31.kept (g1 := g6) (P := zOne (0)) (fun x9 h9 => hne x9 h9) (by intro z9 h8 h9; dsimp only [zOne]; omega)
  have h_0 : g6 (0) = .inr (4, [.ref q1, .ref q31, .null, .null, .int 0, .null, .null, .null]) := hs9
  have hG0 : ∀ x, x < 0 → g6 x = g x := fun x h9 => (hne x (by omega)).trans (hG0 x h9)
  refine lv_aload_n hx hb dX4_init_26 rfl (lv_at hl 0 rfl) ?_
  refine lv_iconst (v := 2) hx hb dX4_init_27 (by decide) ?_
  refine z_newq (t0 := 4) (N' := 2) C0 hP hS q27 hN.2.1 rfl (by decide) (by decide) (Nat.le_of_ble_eq_true rfl) (Nat.le_of_ble_eq_true rfl) (Nat.le_of_ble_eq_true rfl) dX4_init_28 (fun ad7 g7 q213 H hgr hq9 hn9 hP hS => ?_)
  have h_0 : g7 (0) = .inr (4, [.ref q1, .ref q31, .null, .null, .int 0, .null, .null, .null]) := (hgr.2 _ (by omega)).trans h_0
  have h_1 := h_1.gr (K1 := 214) (by omega) hgr.1 (fun x9 h8 h9 => hgr.2 x9 (by omega))
  have h_31 := h_31.gr (K1 := 214) (by omega) hgr.1 (fun x9 h8 h9 => hgr.2 x9 (by omega))
  have q_0 : ad7 (0) = q0 := (hgr.1 _ (by omega)).trans q_0
  have q_1 : ad7 (1) = q1 := (hgr.1 _ (by omega)).trans q_1
  have q_31 : ad7 (31) = q31 := (hgr.1 _ (by omega)).trans q_31
  have hA0 : ∀ x, x < 1 → ad7 x = ad x := fun x h9 => (hgr.1 x (by omega)).trans (hA0 x h9)
  have hG0 : ∀ x, x < 0 → g7 x = g x := fun x h9 => (hgr.2 x (by omega)).trans (hG0 x h9)
  have h_213 : g7 (213) = .inl (cy 4, 2, .inr (.inr (.inr (.inr (fun _ => none))))) := hn9
  have q_213 : ad7 (213) = q213 := hq9
  refine z_putFq C0 hP hS hnm q_0 (by omega) h_0 fp_X4_23 rfl rfl rfl (Nat.le_of_ble_eq_true rfl) dX4_init_31 (fun g8 H locs hne hs9 hP hS => ?_)
  have h_1 := h_1.kept (g1 := g8) (P := zOne (0)) (fun x9 h9 => hne x9 h9) (by intro z9 h8 h9; dsimp only [zOne]; omega)
  have h_31 := h_31.kept (g1 := g8) (P := zOne (0)) (fun x9 h9 => hne x9 h9) (by intro z9 h8 h9; dsimp only [zOne]; omega)
  have h_213 : g8 (213) = .inl (cy 4, 2, .inr (.inr (.inr (.inr (fun _ => none))))) := (hne _ (by omega)).trans h_213
  have h_0 : g8 (0) = .inr (4, [.ref q1, .ref q31, .ref q213, .null, .int 0, .null, .null, .null]) := hs9
  have hG0 : ∀ x, x < 0 → g8 x = g x := fun x h9 => (hne x (by omega)).trans (hG0 x h9)
  refine lv_aload_n hx hb dX4_init_34 rfl (lv_at hl 0 rfl) ?_
  refine lv_bipush (v := 60) hx hb dX4_init_35 (by decide) ?_
  refine z_newa (atype := .char) (t0 := 0) (N' := 60) (a0 := (60, .inl (fun _ => 0))) C0 hP hS q140 rfl rfl (fun _ => rfl) (by decide) (by decide) (Nat.le_of_ble_eq_true rfl) (Nat.le_of_ble_eq_true rfl) (Nat.le_of_ble_eq_true rfl) dX4_init_37 (fun ad9 g9 q214 H hgr hq9 hn9 hP hS => ?_)
  have h_0 : g9 (0) = .inr (4, [.ref q1, .ref q31, .ref q213, .null, .int 0, .null, .null, .null]) := (hgr.2 _ (by omega)).trans h_0
  have h_1 := h_1.gr (K1 := 215) (by omega) hgr.1 (fun x9 h8 h9 => hgr.2 x9 (by omega))
  have h_31 := h_31.gr (K1 := 215) (by omega) hgr.1 (fun x9 h8 h9 => hgr.2 x9 (by omega))
  have h_213 : g9 (213) = .inl (cy 4, 2, .inr (.inr (.inr (.inr (fun _ => none))))) := (hgr.2 _ (by omega)).trans h_213
  have q_0 : ad9 (0) = q0 := (hgr.1 _ (by omega)).trans q_0
  have q_1 : ad9 (1) = q1 := (hgr.1 _ (by omega)).trans q_1
  have q_31 : ad9 (31) = q31 := (hgr.1 _ (by omega)).trans q_31
  have q_213 : ad9 (213) = q213 := (hgr.1 _ (by omega)).trans q_213
  have hA0 : ∀ x, x < 1 → ad9 x = ad x := fun x h9 => (hgr.1 x (by omega)).trans (hA0 x h9)
  have hG0 : ∀ x, x < 0 → g9 x = g x := fun x h9 => (hgr.2 x (by omega)).trans (hG0 x h9)
  have h_214 : g9 (214) = .inl (cy 0, 60, .inl (fun _ => 0)) := hn9
  have q_214 : ad9 (214) = q214 := hq9
  refine z_putFq C0 hP hS hnm q_0 (by omega) h_0 fp_X4_27 rfl rfl rfl (Nat.le_of_ble_eq_true rfl) dX4_init_39 (fun g10 H locs hne hs9 hP hS => ?_)
  have h_1 := h_1.kept (g1 := g10) (P := zOne (0)) (fun x9 h9 => hne x9 h9) (by intro z9 h8 h9; dsimp only [zOne]; omega)
  have h_31 := h_31.kept (g1 := g10) (P := zOne (0)) (fun x9 h9 => hne x9 h9) (by intro z9 h8 h9; dsimp only [zOne]; omega)
  have h_213 : g10 (213) = .inl (cy 4, 2, .inr (.inr (.inr (.inr (fun _ => none))))) := (hne _ (by omega)).trans h_213
  have h_214 : g10 (214) = .inl (cy 0, 60, .inl (fun _ => 0)) := (hne _ (by omega)).trans h_214
  have h_0 : g10 (0) = .inr (4, [.ref q1, .ref q31, .ref q213, .ref q214, .int 0, .null, .null, .null]) := hs9
  have hG0 : ∀ x, x < 0 → g10 x = g x := fun x h9 => (hne x (by omega)).trans (hG0 x h9)
  refine lv_aload_n hx hb dX4_init_42 rfl (lv_at hl 0 rfl) ?_
  refine lv_iconst (v := 0) hx hb dX4_init_43 (by decide) ?_
  refine z_putq C0 hP hS q_0 (by omega) h_0 fp_X4_31 rfl rfl (Nat.le_of_ble_eq_true rfl) dX4_init_44 (fun g11 H locs hne hs9 hP hS => ?_)
  have h_1 := h_1.kept (g1 := g11) (P := zOne (0)) (fun x9 h9 => hne x9 h9) (by intro z9 h8 h9; dsimp only [zOne]; omega)
  have h_31 := h_31.kept (g1 := g11) (P := zOne (0)) (fun x9 h9 => hne x9 h9) (by intro z9 h8 h9; dsimp only [zOne]; omega)
  have h_213 : g11 (213) = .inl (cy 4, 2, .inr (.inr (.inr (.inr (fun _ => none))))) := (hne _ (by omega)).trans h_213
  have h_214 : g11 (214) = .inl (cy 0, 60, .inl (fun _ => 0)) := (hne _ (by omega)).trans h_214
  have h_0 : g11 (0) = .inr (4, [.ref q1, .ref q31, .ref q213, .ref q214, .int 0, .null, .null, .null]) := hs9
  have hG0 : ∀ x, x < 0 → g11 x = g x := fun x h9 => (hne x (by omega)).trans (hG0 x h9)
  refine lv_aload_n hx hb dX4_init_47 rfl (lv_at hl 0 rfl) ?_
  refine z_newc C0 hP hS zn_X4_35 (Nat.le_of_ble_eq_true rfl) (Nat.le_of_ble_eq_true rfl) dX4_init_48 (fun ad12 g12 q215 H hgr hq9 hn9 hP hS => ?_)
  have h_0 : g12 (0) = .inr (4, [.ref q1, .ref q31, .ref q213, .ref q214, .int 0, .null, .null, .null]) := (hgr.2 _ (by omega)).trans h_0
  have h_1 := h_1.gr (K1 := 216) (by omega) hgr.1 (fun x9 h8 h9 => hgr.2 x9 (by omega))
  have h_31 := h_31.gr (K1 := 216) (by omega) hgr.1 (fun x9 h8 h9 => hgr.2 x9 (by omega))
  have h_213 : g12 (213) = .inl (cy 4, 2, .inr (.inr (.inr (.inr (fun _ => none))))) := (hgr.2 _ (by omega)).trans h_213
  have h_214 : g12 (214) = .inl (cy 0, 60, .inl (fun _ => 0)) := (hgr.2 _ (by omega)).trans h_214
  have q_0 : ad12 (0) = q0 := (hgr.1 _ (by omega)).trans q_0
  have q_1 : ad12 (1) = q1 := (hgr.1 _ (by omega)).trans q_1
  have q_31 : ad12 (31) = q31 := (hgr.1 _ (by omega)).trans q_31
  have q_213 : ad12 (213) = q213 := (hgr.1 _ (by omega)).trans q_213
  have q_214 : ad12 (214) = q214 := (hgr.1 _ (by omega)).trans q_214
  have hA0 : ∀ x, x < 1 → ad12 x = ad x := fun x h9 => (hgr.1 x (by omega)).trans (hA0 x h9)
  have hG0 : ∀ x, x < 0 → g12 x = g x := fun x h9 => (hgr.2 x (by omega)).trans (hG0 x h9)
  have h_215 : g12 (215) = .inr (3, [.int 0, .int 0, .int 0, .int 0, .int 0]) := hn9
  have q_215 : ad12 (215) = q215 := hq9
  refine lv_dup hx hb dX4_init_51 rfl ?_
  refine z_callvN C0 hP hS (z_runIn (rest := [.ref q215, .ref q0]) C0 hN hP hl.1 (m_X3_init l _ h_215) zl_X4_37 hN.2.2.2.2 q_215 (Nat.le_of_ble_eq_true rfl) rfl rfl ⟨(Nat.le_of_ble_eq_true rfl), (Nat.le_of_ble_eq_true rfl)⟩ ⟨(Nat.le_of_ble_eq_true rfl), (Nat.le_of_ble_eq_true rfl)⟩ dX4_init_52) (fun K1 ad13 g13 H locs hP hS hp => ?_)
  obtain ⟨hK1, hgr1, hgr2, h9n⟩ := hp
  dsimp only at hK1 hgr1 hgr2 h9n
  subst hK1
  have h_0 : g13 (0) = .inr (4, [.ref q1, .ref q31, .ref q213, .ref q214, .int 0, .null, .null, .null]) := (hgr2 _ (by omega)).trans h_0
  have h_1 := h_1.gr (K1 := 216) (by omega) (fun x9 h9 => hgr1 x9 (by omega)) (fun x9 h8 h9 => hgr2 x9 (by omega))
  have h_31 := h_31.gr (K1 := 216) (by omega) (fun x9 h9 => hgr1 x9 (by omega)) (fun x9 h8 h9 => hgr2 x9 (by omega))
  have h_213 : g13 (213) = .inl (cy 4, 2, .inr (.inr (.inr (.inr (fun _ => none))))) := (hgr2 _ (by omega)).trans h_213
  have h_214 : g13 (214) = .inl (cy 0, 60, .inl (fun _ => 0)) := (hgr2 _ (by omega)).trans h_214
  have q_0 : ad13 (0) = q0 := (hgr1 _ (by omega)).trans q_0
  have q_1 : ad13 (1) = q1 := (hgr1 _ (by omega)).trans q_1
  have q_31 : ad13 (31) = q31 := (hgr1 _ (by omega)).trans q_31
  have q_213 : ad13 (213) = q213 := (hgr1 _ (by omega)).trans q_213
  have q_214 : ad13 (214) = q214 := (hgr1 _ (by omega)).trans q_214
  have q_215 : ad13 (215) = q215 := (hgr1 _ (by omega)).trans q_215
  have hA0 : ∀ x, x < 1 → ad13 x = ad x := fun x h9 => (hgr1 x (by omega)).trans (hA0 x h9)
  have hG0 : ∀ x, x < 0 → g13 x = g x := fun x h9 => (hgr2 x (by omega)).trans (hG0 x h9)
  have h_215 := h9n
  refine z_putFq C0 hP hS hnm q_0 (by omega) h_0 fp_X4_38 rfl rfl rfl (Nat.le_of_ble_eq_true rfl) dX4_init_55 (fun g14 H locs hne hs9 hP hS => ?_)
  have h_1 := h_1.kept (g1 := g14) (P := zOne (0)) (fun x9 h9 => hne x9 h9) (by intro z9 h8 h9; dsimp only [zOne]; omega)
  have h_31 := h_31.kept (g1 := g14) (P := zOne (0)) (fun x9 h9 => hne x9 h9) (by intro z9 h8 h9; dsimp only [zOne]; omega)
  have h_213 : g14 (213) = .inl (cy 4, 2, .inr (.inr (.inr (.inr (fun _ => none))))) := (hne _ (by omega)).trans h_213
  have h_214 : g14 (214) = .inl (cy 0, 60, .inl (fun _ => 0)) := (hne _ (by omega)).trans h_214
  have h_215 := h_215.kept (g1 := g14) (P := zOne (0)) (fun x9 h9 => hne x9 h9) (by dsimp only [zOne]; omega)
  have h_0 : g14 (0) = .inr (4, [.ref q1, .ref q31, .ref q213, .ref q214, .int 0, .ref q215, .null, .null]) := hs9
  have hG0 : ∀ x, x < 0 → g14 x = g x := fun x h9 => (hne x (by omega)).trans (hG0 x h9)
  refine lv_aload_n hx hb dX4_init_58 rfl (lv_at hl 0 rfl) ?_
  refine z_newc C0 hP hS zn_X4_42 (Nat.le_of_ble_eq_true rfl) (Nat.le_of_ble_eq_true rfl) dX4_init_59 (fun ad15 g15 q216 H hgr hq9 hn9 hP hS => ?_)
  have h_0 : g15 (0) = .inr (4, [.ref q1, .ref q31, .ref q213, .ref q214, .int 0, .ref q215, .null, .null]) := (hgr.2 _ (by omega)).trans h_0
  have h_1 := h_1.gr (K1 := 217) (by omega) hgr.1 (fun x9 h8 h9 => hgr.2 x9 (by omega))
  have h_31 := h_31.gr (K1 := 217) (by omega) hgr.1 (fun x9 h8 h9 => hgr.2 x9 (by omega))
  have h_213 : g15 (213) = .inl (cy 4, 2, .inr (.inr (.inr (.inr (fun _ => none))))) := (hgr.2 _ (by omega)).trans h_213
  have h_214 : g15 (214) = .inl (cy 0, 60, .inl (fun _ => 0)) := (hgr.2 _ (by omega)).trans h_214
  have h_215 := h_215.gr (K1 := 217) (by omega) hgr.1 (fun x9 h8 h9 => hgr.2 x9 (by omega))
  have q_0 : ad15 (0) = q0 := (hgr.1 _ (by omega)).trans q_0
  have q_1 : ad15 (1) = q1 := (hgr.1 _ (by omega)).trans q_1
  have q_31 : ad15 (31) = q31 := (hgr.1 _ (by omega)).trans q_31
  have q_213 : ad15 (213) = q213 := (hgr.1 _ (by omega)).trans q_213
  have q_214 : ad15 (214) = q214 := (hgr.1 _ (by omega)).trans q_214
  have q_215 : ad15 (215) = q215 := (hgr.1 _ (by omega)).trans q_215
  have hA0 : ∀ x, x < 1 → ad15 x = ad x := fun x h9 => (hgr.1 x (by omega)).trans (hA0 x h9)
  have hG0 : ∀ x, x < 0 → g15 x = g x := fun x h9 => (hgr.2 x (by omega)).trans (hG0 x h9)
  have h_216 : g15 (216) = .inr (0, [.null, .null, .null, .int 0, .int 0, .int 0]) := hn9
  have q_216 : ad15 (216) = q216 := hq9
  refine lv_dup hx hb dX4_init_62 rfl ?_
  refine z_callvN C0 hP hS (z_runIn (rest := [.ref q216, .ref q0]) C0 hN hP hl.1 (m_X0_init l _ h_216) zl_X4_44 hN.2.2.2.1 q_216 (Nat.le_of_ble_eq_true rfl) rfl rfl ⟨(Nat.le_of_ble_eq_true rfl), (Nat.le_of_ble_eq_true rfl)⟩ ⟨(Nat.le_of_ble_eq_true rfl), (Nat.le_of_ble_eq_true rfl)⟩ dX4_init_63) (fun K1 ad16 g16 H locs hP hS hp => ?_)
  obtain ⟨hK1, hgr1, hgr2, h9n⟩ := hp
  dsimp only at hK1 hgr1 hgr2 h9n
  subst hK1
  have h_0 : g16 (0) = .inr (4, [.ref q1, .ref q31, .ref q213, .ref q214, .int 0, .ref q215, .null, .null]) := (hgr2 _ (by omega)).trans h_0
  have h_1 := h_1.gr (K1 := 220) (by omega) (fun x9 h9 => hgr1 x9 (by omega)) (fun x9 h8 h9 => hgr2 x9 (by omega))
  have h_31 := h_31.gr (K1 := 220) (by omega) (fun x9 h9 => hgr1 x9 (by omega)) (fun x9 h8 h9 => hgr2 x9 (by omega))
  have h_213 : g16 (213) = .inl (cy 4, 2, .inr (.inr (.inr (.inr (fun _ => none))))) := (hgr2 _ (by omega)).trans h_213
  have h_214 : g16 (214) = .inl (cy 0, 60, .inl (fun _ => 0)) := (hgr2 _ (by omega)).trans h_214
  have h_215 := h_215.gr (K1 := 220) (by omega) (fun x9 h9 => hgr1 x9 (by omega)) (fun x9 h8 h9 => hgr2 x9 (by omega))
  have q_0 : ad16 (0) = q0 := (hgr1 _ (by omega)).trans q_0
  have q_1 : ad16 (1) = q1 := (hgr1 _ (by omega)).trans q_1
  have q_31 : ad16 (31) = q31 := (hgr1 _ (by omega)).trans q_31
  have q_213 : ad16 (213) = q213 := (hgr1 _ (by omega)).trans q_213
  have q_214 : ad16 (214) = q214 := (hgr1 _ (by omega)).trans q_214
  have q_215 : ad16 (215) = q215 := (hgr1 _ (by omega)).trans q_215
  have q_216 : ad16 (216) = q216 := (hgr1 _ (by omega)).trans q_216
  have hA0 : ∀ x, x < 1 → ad16 x = ad x := fun x h9 => (hgr1 x (by omega)).trans (hA0 x h9)
  have hG0 : ∀ x, x < 0 → g16 x = g x := fun x h9 => (hgr2 x (by omega)).trans (hG0 x h9)
  have h_216 := h9n
  refine z_putFq C0 hP hS hnm q_0 (by omega) h_0 fp_X4_45 rfl rfl rfl (Nat.le_of_ble_eq_true rfl) dX4_init_66 (fun g17 H locs hne hs9 hP hS => ?_)
  have h_1 := h_1.kept (g1 := g17) (P := zOne (0)) (fun x9 h9 => hne x9 h9) (by intro z9 h8 h9; dsimp only [zOne]; omega)
  have h_31 := h_31.kept (g1 := g17) (P := zOne (0)) (fun x9 h9 => hne x9 h9) (by intro z9 h8 h9; dsimp only [zOne]; omega)
  have h_213 : g17 (213) = .inl (cy 4, 2, .inr (.inr (.inr (.inr (fun _ => none))))) := (hne _ (by omega)).trans h_213
  have h_214 : g17 (214) = .inl (cy 0, 60, .inl (fun _ => 0)) := (hne _ (by omega)).trans h_214
  have h_215 := h_215.kept (g1 := g17) (P := zOne (0)) (fun x9 h9 => hne x9 h9) (by dsimp only [zOne]; omega)
  have h_216 := h_216.kept (g1 := g17) (P := zOne (0)) (fun x9 h9 => hne x9 h9) ⟨by dsimp only [zOne]; omega, by dsimp only [zOne]; omega, by dsimp only [zOne]; omega, by dsimp only [zOne]; omega⟩
  have h_0 : g17 (0) = .inr (4, [.ref q1, .ref q31, .ref q213, .ref q214, .int 0, .ref q215, .ref q216, .null]) := hs9
  have hG0 : ∀ x, x < 0 → g17 x = g x := fun x h9 => (hne x (by omega)).trans (hG0 x h9)
  refine lv_aload_n hx hb dX4_init_69 rfl (lv_at hl 0 rfl) ?_
  refine lv_bipush (v := 7) hx hb dX4_init_70 (by decide) ?_
  refine z_newa (atype := .int) (t0 := 1) (N' := 7) (a0 := (7, .inl (fun _ => 0))) C0 hP hS q68 rfl rfl (fun _ => rfl) (by decide) (by decide) (Nat.le_of_ble_eq_true rfl) (Nat.le_of_ble_eq_true rfl) (Nat.le_of_ble_eq_true rfl) dX4_init_72 (fun ad18 g18 q220 H hgr hq9 hn9 hP hS => ?_)
  have h_0 : g18 (0) = .inr (4, [.ref q1, .ref q31, .ref q213, .ref q214, .int 0, .ref q215, .ref q216, .null]) := (hgr.2 _ (by omega)).trans h_0
  have h_1 := h_1.gr (K1 := 221) (by omega) hgr.1 (fun x9 h8 h9 => hgr.2 x9 (by omega))
  have h_31 := h_31.gr (K1 := 221) (by omega) hgr.1 (fun x9 h8 h9 => hgr.2 x9 (by omega))
  have h_213 : g18 (213) = .inl (cy 4, 2, .inr (.inr (.inr (.inr (fun _ => none))))) := (hgr.2 _ (by omega)).trans h_213
  have h_214 : g18 (214) = .inl (cy 0, 60, .inl (fun _ => 0)) := (hgr.2 _ (by omega)).trans h_214
  have h_215 := h_215.gr (K1 := 221) (by omega) hgr.1 (fun x9 h8 h9 => hgr.2 x9 (by omega))
  have h_216 := h_216.gr (K1 := 221) (by omega) hgr.1 (fun x9 h8 h9 => hgr.2 x9 (by omega))
  have q_0 : ad18 (0) = q0 := (hgr.1 _ (by omega)).trans q_0
  have q_1 : ad18 (1) = q1 := (hgr.1 _ (by omega)).trans q_1
  have q_31 : ad18 (31) = q31 := (hgr.1 _ (by omega)).trans q_31
  have q_213 : ad18 (213) = q213 := (hgr.1 _ (by omega)).trans q_213
  have q_214 : ad18 (214) = q214 := (hgr.1 _ (by omega)).trans q_214
  have q_215 : ad18 (215) = q215 := (hgr.1 _ (by omega)).trans q_215
  have q_216 : ad18 (216) = q216 := (hgr.1 _ (by omega)).trans q_216
  have hA0 : ∀ x, x < 1 → ad18 x = ad x := fun x h9 => (hgr.1 x (by omega)).trans (hA0 x h9)
  have hG0 : ∀ x, x < 0 → g18 x = g x := fun x h9 => (hgr.2 x (by omega)).trans (hG0 x h9)
  have h_220 : g18 (220) = .inl (cy 1, 7, .inl (fun _ => 0)) := hn9
  have q_220 : ad18 (220) = q220 := hq9
  refine z_putFq C0 hP hS hnm q_0 (by omega) h_0 fp_X4_49 rfl rfl rfl (Nat.le_of_ble_eq_true rfl) dX4_init_74 (fun g19 H locs hne hs9 hP hS => ?_)
  have h_1 := h_1.kept (g1 := g19) (P := zOne (0)) (fun x9 h9 => hne x9 h9) (by intro z9 h8 h9; dsimp only [zOne]; omega)
  have h_31 := h_31.kept (g1 := g19) (P := zOne (0)) (fun x9 h9 => hne x9 h9) (by intro z9 h8 h9; dsimp only [zOne]; omega)
  have h_213 : g19 (213) = .inl (cy 4, 2, .inr (.inr (.inr (.inr (fun _ => none))))) := (hne _ (by omega)).trans h_213
  have h_214 : g19 (214) = .inl (cy 0, 60, .inl (fun _ => 0)) := (hne _ (by omega)).trans h_214
  have h_215 := h_215.kept (g1 := g19) (P := zOne (0)) (fun x9 h9 => hne x9 h9) (by dsimp only [zOne]; omega)
  have h_216 := h_216.kept (g1 := g19) (P := zOne (0)) (fun x9 h9 => hne x9 h9) ⟨by dsimp only [zOne]; omega, by dsimp only [zOne]; omega, by dsimp only [zOne]; omega, by dsimp only [zOne]; omega⟩
  have h_220 : g19 (220) = .inl (cy 1, 7, .inl (fun _ => 0)) := (hne _ (by omega)).trans h_220
  have h_0 : g19 (0) = .inr (4, [.ref q1, .ref q31, .ref q213, .ref q214, .int 0, .ref q215, .ref q216, .ref q220]) := hs9
  have hG0 : ∀ x, x < 0 → g19 x = g x := fun x h9 => (hne x (by omega)).trans (hG0 x h9)
  exact z_vretN (K1 := 221) C0 hP hS hr ⟨rfl, hA0, hG0, ⟨fun _ => none, fun _ => 0, (0, 0, 0, 43, 0), fun _ => 0, ⟨by omega, by show g19 0 = .inr (4, [.ref (ad18 1), .ref (ad18 31), .ref (ad18 213), .ref (ad18 214), .int (nI 0), .ref (ad18 215), .ref (ad18 216), .ref (ad18 220)]); rw [h_0, q_1, q_31, q_213, q_214, q_215, q_216, q_220]; rfl, h_213, h_214, h_220⟩, h_1, h_31, h_215, ⟨fun _ => 0, fun _ => 0, fun _ => 0, h_216, fun _ _ => rfl, fun _ _ => rfl, fun _ _ => rfl⟩, ⟨fun j hj => ⟨rfl, fun a9 h9 => by cases h9⟩, fun a9 b9 h9 => by cases h9⟩⟩⟩ dX4_init_77
