theorem zl_X4_44 : zLn RX4 44 yX0_init cX0_init 1 := ⟨q37, q7, q38, rfl, by decide +kernel⟩
theorem zn_X4_42 : zNw RX4 42 0 [.null, .null, .null, .int 0, .int 0, .int 0] 6 := ⟨RX0, TX0, tyX0, rfl, ziX0, tyX0_ok, q141, q35, q7, by intro j hj; revert j; decide +kernel⟩
theorem zl_X4_37 : zLn RX4 37 yX3_init cX3_init 1 := ⟨q121, q9, q122, rfl, by decide +kernel⟩
theorem zn_X4_35 : zNw RX4 35 3 [.int 0, .int 0, .int 0, .int 0, .int 0] 5 := ⟨RX3, TX3, tyX3, rfl, ziX3, tyX3_ok, q118, q119, q9, by intro j hj; revert j; decide +kernel⟩
theorem zl_X2_24 : zLi RX2 24 yX1_init cX1_init 2 := ⟨q106, q30, q6, q31, rfl, by decide +kernel⟩
theorem zn_X2_9 : zNw RX2 9 1 [.null, .int 0, .int 0, .int 0, .int 0, .int 0, .int 0] 7 := ⟨RX1, TX1, tyX1, rfl, ziX1, tyX1_ok, q104, q28, q6, by intro j hj; revert j; decide +kernel⟩
theorem zl_X4_18 : zLi RX4 18 yX2_init cX2_init 2 := ⟨q100, q101, q8, q102, rfl, by decide +kernel⟩
theorem zn_X4_16 : zNw RX4 16 2 [.null, .int 0, .int 0] 3 := ⟨RX2, TX2, tyX2, rfl, ziX2, tyX2_ok, q98, q99, q8, by intro j hj; revert j; decide +kernel⟩
theorem zl_X1_36 : zLn RX1 36 yX0_init cX0_init 1 := ⟨q37, q7, q38, rfl, by decide +kernel⟩
theorem zn_X1_9 : zNw RX1 9 0 [.null, .null, .null, .int 0, .int 0, .int 0] 6 := ⟨RX0, TX0, tyX0, rfl, ziX0, tyX0_ok, q33, q35, q7, by intro j hj; revert j; decide +kernel⟩
theorem zl_X4_9 : zLi RX4 9 yX1_init cX1_init 2 := ⟨q29, q30, q6, q31, rfl, by decide +kernel⟩
theorem zn_X4_7 : zNw RX4 7 1 [.null, .int 0, .int 0, .int 0, .int 0, .int 0, .int 0] 7 := ⟨RX1, TX1, tyX1, rfl, ziX1, tyX1_ok, q27, q28, q6, by intro j hj; revert j; decide +kernel⟩
theorem zl_L_87 : zLi RL 87 yX4_init cX4_init 1 := ⟨q21, q22, q5, q23, rfl, by decide +kernel⟩
theorem zn_L_16 : zNw RL 16 4 [.null, .null, .null, .null, .int 0, .null, .null, .null] 8 := ⟨RX4, TX4, tyX4, rfl, ziX4, tyX4_ok, q19, q20, q5, by intro j hj; revert j; decide +kernel⟩
set_option maxHeartbeats 4000000 in
set_option maxRecDepth 100000 in
theorem m_X0_init (l : Launch) {D : va_G} {cy : Nat → ClassId} {ad : Nat → Nat} {g : Nat → va_E} (sz : Nat) {n : Nat} (h0 : g (n) = .inr (0, [.null, .null, .null, .int 0, .int 0, .int 0])) : Met l yX0_init (zs yX0_init cX0_init 1 none) ({ frames := 2, cells := 3, slots := 28, locals := 40 } : Room) (va_Pc [.ref (ad (n))] (zInN D cy (n + 1) ad g sz)) (va_Qv (fun u : zU => u.1 = n + 4 ∧ (∀ x, x < n + 1 → u.2.1 x = ad x) ∧ (∀ x, x < n → u.2.2 x = g x) ∧ isC cy (n + 4) u.2.1 u.2.2 n (fun _ => 0) (fun _ => 0) (fun _ => 0) 0 0 0) (zOutN D cy (n + 1) ad sz) (zA (n + 1) ad sz)) 3 28 (zA (n + 1) ad sz) := by
  refine z_metN (by decide) (Nat.le_of_ble_eq_true rfl) (fun p e s m below meth c ls hsz hl C0 hN hr hnm hP hS => ?_)
  subst hsz
  obtain ⟨q0, q_0⟩ : ∃ q, ad n = q := ⟨_, rfl⟩
  have hl : lv_has ls 1 [(0, .ref q0)] := q_0 ▸ hl
  have hx := C0.1; have hb := C0.2.1; have hown := C0.2.2.2.1; have hts := C0.2.2.2.2.1
  have h_0 := h0
  have hA0 : ∀ x, x < n + 1 → ad x = ad x := fun _ _ => rfl
  have hG0 : ∀ x, x < n → g x = g x := fun _ _ => rfl
  refine lv_aload_n hx hb dX0_init_0 rfl (lv_at hl 0 rfl) ?_
  refine z_oi C0 hl.1 q39 (Nat.le_of_ble_eq_true rfl) (Nat.le_of_ble_eq_true rfl) dX0_init_1 ?_
  refine lv_aload_n hx hb dX0_init_4 rfl (lv_at hl 0 rfl) ?_
  refine lv_bipush (v := 6) hx hb dX0_init_5 (by decide) ?_
  refine z_newa (atype := .int) (t0 := 1) (N' := 6) (a0 := (6, .inl (fun _ => 0))) C0 hP hS q68 rfl rfl (fun _ => rfl) (by decide) (by decide) (Nat.le_of_ble_eq_true rfl) (Nat.le_of_ble_eq_true rfl) (Nat.le_of_ble_eq_true rfl) dX0_init_7 (fun ad1 g1 q1 H hgr hq9 hn9 hP hS => ?_)
  have h_0 : g1 (n) = .inr (0, [.null, .null, .null, .int 0, .int 0, .int 0]) := (hgr.2 _ (by omega)).trans h_0
  have q_0 : ad1 (n) = q0 := (hgr.1 _ (by omega)).trans q_0
  have hA0 : ∀ x, x < n + 1 → ad1 x = ad x := fun x h9 => (hgr.1 x (by omega)).trans (hA0 x h9)
  have hG0 : ∀ x, x < n → g1 x = g x := fun x h9 => (hgr.2 x (by omega)).trans (hG0 x h9)
  have h_1 : g1 (n + 1) = .inl (cy 1, 6, .inl (fun _ => 0)) := hn9
  have q_1 : ad1 (n + 1) = q1 := hq9
  refine z_putFq C0 hP hS hnm q_0 (by omega) h_0 fp_X0_9 rfl rfl rfl (Nat.le_of_ble_eq_true rfl) dX0_init_9 (fun g2 H locs hne hs9 hP hS => ?_)
  have h_1 : g2 (n + 1) = .inl (cy 1, 6, .inl (fun _ => 0)) := (hne _ (by omega)).trans h_1
  have h_0 : g2 (n) = .inr (0, [.ref q1, .null, .null, .int 0, .int 0, .int 0]) := hs9
  have hG0 : ∀ x, x < n → g2 x = g x := fun x h9 => (hne x (by omega)).trans (hG0 x h9)
  refine lv_aload_n hx hb dX0_init_12 rfl (lv_at hl 0 rfl) ?_
  refine lv_bipush (v := 6) hx hb dX0_init_13 (by decide) ?_
  refine z_newa (atype := .int) (t0 := 1) (N' := 6) (a0 := (6, .inl (fun _ => 0))) C0 hP hS q68 rfl rfl (fun _ => rfl) (by decide) (by decide) (Nat.le_of_ble_eq_true rfl) (Nat.le_of_ble_eq_true rfl) (Nat.le_of_ble_eq_true rfl) dX0_init_15 (fun ad3 g3 q2 H hgr hq9 hn9 hP hS => ?_)
  have h_0 : g3 (n) = .inr (0, [.ref q1, .null, .null, .int 0, .int 0, .int 0]) := (hgr.2 _ (by omega)).trans h_0
  have h_1 : g3 (n + 1) = .inl (cy 1, 6, .inl (fun _ => 0)) := (hgr.2 _ (by omega)).trans h_1
  have q_0 : ad3 (n) = q0 := (hgr.1 _ (by omega)).trans q_0
  have q_1 : ad3 (n + 1) = q1 := (hgr.1 _ (by omega)).trans q_1
  have hA0 : ∀ x, x < n + 1 → ad3 x = ad x := fun x h9 => (hgr.1 x (by omega)).trans (hA0 x h9)
  have hG0 : ∀ x, x < n → g3 x = g x := fun x h9 => (hgr.2 x (by omega)).trans (hG0 x h9)
  have h_2 : g3 (n + 2) = .inl (cy 1, 6, .inl (fun _ => 0)) := hn9
  have q_2 : ad3 (n + 2) = q2 := hq9
  refine z_putFq C0 hP hS hnm q_0 (by omega) h_0 fp_X0_15 rfl rfl rfl (Nat.le_of_ble_eq_true rfl) dX0_init_17 (fun g4 H locs hne hs9 hP hS => ?_)
  have h_1 : g4 (n + 1) = .inl (cy 1, 6, .inl (fun _ => 0)) := (hne _ (by omega)).trans h_1
  have h_2 : g4 (n + 2) = .inl (cy 1, 6, .inl (fun _ => 0)) := (hne _ (by omega)).trans h_2
  have h_0 : g4 (n) = .inr (0, [.ref q1, .ref q2, .null, .int 0, .int 0, .int 0]) := hs9
  have hG0 : ∀ x, x < n → g4 x = g x := fun x h9 => (hne x (by omega)).trans (hG0 x h9)
  refine lv_aload_n hx hb dX0_init_20 rfl (lv_at hl 0 rfl) ?_
  refine lv_bipush (v := 16) hx hb dX0_init_21 (by decide) ?_
  refine z_newa (atype := .int) (t0 := 1) (N' := 16) (a0 := (16, .inl (fun _ => 0))) C0 hP hS q68 rfl rfl (fun _ => rfl) (by decide) (by decide) (Nat.le_of_ble_eq_true rfl) (Nat.le_of_ble_eq_true rfl) (Nat.le_of_ble_eq_true rfl) dX0_init_23 (fun ad5 g5 q3 H hgr hq9 hn9 hP hS => ?_)
  have h_0 : g5 (n) = .inr (0, [.ref q1, .ref q2, .null, .int 0, .int 0, .int 0]) := (hgr.2 _ (by omega)).trans h_0
  have h_1 : g5 (n + 1) = .inl (cy 1, 6, .inl (fun _ => 0)) := (hgr.2 _ (by omega)).trans h_1
  have h_2 : g5 (n + 2) = .inl (cy 1, 6, .inl (fun _ => 0)) := (hgr.2 _ (by omega)).trans h_2
  have q_0 : ad5 (n) = q0 := (hgr.1 _ (by omega)).trans q_0
  have q_1 : ad5 (n + 1) = q1 := (hgr.1 _ (by omega)).trans q_1
  have q_2 : ad5 (n + 2) = q2 := (hgr.1 _ (by omega)).trans q_2
  have hA0 : ∀ x, x < n + 1 → ad5 x = ad x := fun x h9 => (hgr.1 x (by omega)).trans (hA0 x h9)
  have hG0 : ∀ x, x < n → g5 x = g x := fun x h9 => (hgr.2 x (by omega)).trans (hG0 x h9)
  have h_3 : g5 (n + 3) = .inl (cy 1, 16, .inl (fun _ => 0)) := hn9
  have q_3 : ad5 (n + 3) = q3 := hq9
  refine z_putFq C0 hP hS hnm q_0 (by omega) h_0 fp_X0_18 rfl rfl rfl (Nat.le_of_ble_eq_true rfl) dX0_init_25 (fun g6 H locs hne hs9 hP hS => ?_)
  have h_1 : g6 (n + 1) = .inl (cy 1, 6, .inl (fun _ => 0)) := (hne _ (by omega)).trans h_1
  have h_2 : g6 (n + 2) = .inl (cy 1, 6, .inl (fun _ => 0)) := (hne _ (by omega)).trans h_2
  have h_3 : g6 (n + 3) = .inl (cy 1, 16, .inl (fun _ => 0)) := (hne _ (by omega)).trans h_3
  have h_0 : g6 (n) = .inr (0, [.ref q1, .ref q2, .ref q3, .int 0, .int 0, .int 0]) := hs9
  have hG0 : ∀ x, x < n → g6 x = g x := fun x h9 => (hne x (by omega)).trans (hG0 x h9)
  refine lv_aload_n hx hb dX0_init_28 rfl (lv_at hl 0 rfl) ?_
  refine lv_iconst (v := 0) hx hb dX0_init_29 (by decide) ?_
  refine z_putq C0 hP hS q_0 (by omega) h_0 fp_X0_21 rfl rfl (Nat.le_of_ble_eq_true rfl) dX0_init_30 (fun g7 H locs hne hs9 hP hS => ?_)
  have h_1 : g7 (n + 1) = .inl (cy 1, 6, .inl (fun _ => 0)) := (hne _ (by omega)).trans h_1
  have h_2 : g7 (n + 2) = .inl (cy 1, 6, .inl (fun _ => 0)) := (hne _ (by omega)).trans h_2
  have h_3 : g7 (n + 3) = .inl (cy 1, 16, .inl (fun _ => 0)) := (hne _ (by omega)).trans h_3
  have h_0 : g7 (n) = .inr (0, [.ref q1, .ref q2, .ref q3, .int 0, .int 0, .int 0]) := hs9
  have hG0 : ∀ x, x < n → g7 x = g x := fun x h9 => (hne x (by omega)).trans (hG0 x h9)
  refine lv_aload_n hx hb dX0_init_33 rfl (lv_at hl 0 rfl) ?_
  refine lv_iconst (v := 0) hx hb dX0_init_34 (by decide) ?_
  refine z_putq C0 hP hS q_0 (by omega) h_0 fp_X0_25 rfl rfl (Nat.le_of_ble_eq_true rfl) dX0_init_35 (fun g8 H locs hne hs9 hP hS => ?_)
  have h_1 : g8 (n + 1) = .inl (cy 1, 6, .inl (fun _ => 0)) := (hne _ (by omega)).trans h_1
  have h_2 : g8 (n + 2) = .inl (cy 1, 6, .inl (fun _ => 0)) := (hne _ (by omega)).trans h_2
  have h_3 : g8 (n + 3) = .inl (cy 1, 16, .inl (fun _ => 0)) := (hne _ (by omega)).trans h_3
  have h_0 : g8 (n) = .inr (0, [.ref q1, .ref q2, .ref q3, .int 0, .int 0, .int 0]) := hs9
  have hG0 : ∀ x, x < n → g8 x = g x := fun x h9 => (hne x (by omega)).trans (hG0 x h9)
  refine lv_aload_n hx hb dX0_init_38 rfl (lv_at hl 0 rfl) ?_
  refine lv_iconst (v := 0) hx hb dX0_init_39 (by decide) ?_
  refine z_putq C0 hP hS q_0 (by omega) h_0 fp_X0_28 rfl rfl (Nat.le_of_ble_eq_true rfl) dX0_init_40 (fun g9 H locs hne hs9 hP hS => ?_)
  have h_1 : g9 (n + 1) = .inl (cy 1, 6, .inl (fun _ => 0)) := (hne _ (by omega)).trans h_1
  have h_2 : g9 (n + 2) = .inl (cy 1, 6, .inl (fun _ => 0)) := (hne _ (by omega)).trans h_2
  have h_3 : g9 (n + 3) = .inl (cy 1, 16, .inl (fun _ => 0)) := (hne _ (by omega)).trans h_3
  have h_0 : g9 (n) = .inr (0, [.ref q1, .ref q2, .ref q3, .int 0, .int 0, .int 0]) := hs9
  have hG0 : ∀ x, x < n → g9 x = g x := fun x h9 => (hne x (by omega)).trans (hG0 x h9)
  exact z_vretN C0 hP hS hr ⟨rfl, hA0, hG0, ⟨Nat.le_refl _, by show g9 n = .inr (0, [.ref (ad5 (n + 1)), .ref (ad5 (n + 2)), .ref (ad5 (n + 3)), .int 0, .int 0, .int 0]); rw [h_0, q_1, q_2, q_3], h_1, h_2, h_3⟩⟩ dX0_init_43
set_option maxHeartbeats 4000000 in
set_option maxRecDepth 100000 in
theorem m_X3_init (l : Launch) {D : va_G} {cy : Nat → ClassId} {ad : Nat → Nat} {g : Nat → va_E} (sz : Nat) {n : Nat} (h0 : g (n) = .inr (3, [.int 0, .int 0, .int 0, .int 0, .int 0])) : Met l yX3_init (zs yX3_init cX3_init 1 none) ({ frames := 2, cells := 0, slots := 0, locals := 40 } : Room) (va_Pc [.ref (ad (n))] (zInN D cy (n + 1) ad g sz)) (va_Qv (fun u : zU => u.1 = n + 1 ∧ (∀ x, x < n + 1 → u.2.1 x = ad x) ∧ (∀ x, x < n → u.2.2 x = g x) ∧ isR cy (n + 1) u.2.1 u.2.2 n 0 0 0 43 0) (zOutN D cy (n + 1) ad sz) (zA (n + 1) ad sz)) 0 0 (zA (n + 1) ad sz) := by
  refine z_metN (by decide) (Nat.le_of_ble_eq_true rfl) (fun p e s m below meth c ls hsz hl C0 hN hr hnm hP hS => ?_)
  subst hsz
  obtain ⟨q0, q_0⟩ : ∃ q, ad n = q := ⟨_, rfl⟩
  have hl : lv_has ls 1 [(0, .ref q0)] := q_0 ▸ hl
  have hx := C0.1; have hb := C0.2.1; have hown := C0.2.2.2.1; have hts := C0.2.2.2.2.1
  have h_0 := h0
  have hA0 : ∀ x, x < n + 1 → ad x = ad x := fun _ _ => rfl
  have hG0 : ∀ x, x < n → g x = g x := fun _ _ => rfl
  refine lv_aload_n hx hb dX3_init_0 rfl (lv_at hl 0 rfl) ?_
  refine z_oi C0 hl.1 q123 (Nat.le_of_ble_eq_true rfl) (Nat.le_of_ble_eq_true rfl) dX3_init_1 ?_
  refine lv_aload_n hx hb dX3_init_4 rfl (lv_at hl 0 rfl) ?_
  refine lv_iconst (v := 0) hx hb dX3_init_5 (by decide) ?_
  refine z_putq C0 hP hS q_0 (by omega) h_0 fp_X3_11 rfl rfl (Nat.le_of_ble_eq_true rfl) dX3_init_6 (fun g1 H locs hne hs9 hP hS => ?_)
  have h_0 : g1 (n) = .inr (3, [.int 0, .int 0, .int 0, .int 0, .int 0]) := hs9
  have hG0 : ∀ x, x < n → g1 x = g x := fun x h9 => (hne x (by omega)).trans (hG0 x h9)
  refine lv_aload_n hx hb dX3_init_9 rfl (lv_at hl 0 rfl) ?_
  refine lv_iconst (v := 0) hx hb dX3_init_10 (by decide) ?_
  refine z_putq C0 hP hS q_0 (by omega) h_0 fp_X3_15 rfl rfl (Nat.le_of_ble_eq_true rfl) dX3_init_11 (fun g2 H locs hne hs9 hP hS => ?_)
  have h_0 : g2 (n) = .inr (3, [.int 0, .int 0, .int 0, .int 0, .int 0]) := hs9
  have hG0 : ∀ x, x < n → g2 x = g x := fun x h9 => (hne x (by omega)).trans (hG0 x h9)
  refine lv_aload_n hx hb dX3_init_14 rfl (lv_at hl 0 rfl) ?_
  refine lv_iconst (v := 0) hx hb dX3_init_15 (by decide) ?_
  refine z_putq C0 hP hS q_0 (by omega) h_0 fp_X3_18 rfl rfl (Nat.le_of_ble_eq_true rfl) dX3_init_16 (fun g3 H locs hne hs9 hP hS => ?_)
  have h_0 : g3 (n) = .inr (3, [.int 0, .int 0, .int 0, .int 0, .int 0]) := hs9
  have hG0 : ∀ x, x < n → g3 x = g x := fun x h9 => (hne x (by omega)).trans (hG0 x h9)
  refine lv_aload_n hx hb dX3_init_19 rfl (lv_at hl 0 rfl) ?_
  refine lv_bipush (v := 43) hx hb dX3_init_20 (by decide) ?_
  refine z_putq C0 hP hS q_0 (by omega) h_0 fp_X3_21 rfl rfl (Nat.le_of_ble_eq_true rfl) dX3_init_22 (fun g4 H locs hne hs9 hP hS => ?_)
  have h_0 : g4 (n) = .inr (3, [.int 0, .int 0, .int 0, .int 43, .int 0]) := hs9
  have hG0 : ∀ x, x < n → g4 x = g x := fun x h9 => (hne x (by omega)).trans (hG0 x h9)
  refine lv_aload_n hx hb dX3_init_25 rfl (lv_at hl 0 rfl) ?_
  refine lv_iconst (v := 0) hx hb dX3_init_26 (by decide) ?_
  refine z_putq C0 hP hS q_0 (by omega) h_0 fp_X3_25 rfl rfl (Nat.le_of_ble_eq_true rfl) dX3_init_27 (fun g5 H locs hne hs9 hP hS => ?_)
  have h_0 : g5 (n) = .inr (3, [.int 0, .int 0, .int 0, .int 43, .int 0]) := hs9
  have hG0 : ∀ x, x < n → g5 x = g x := fun x h9 => (hne x (by omega)).trans (hG0 x h9)
  exact z_vretN C0 hP hS hr ⟨rfl, hA0, hG0, ⟨Nat.le_refl _, h_0⟩⟩ dX3_init_30
