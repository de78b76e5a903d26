/-! ===== the law's loop ===== -/
section ZLC
variable {p : Program} {l : Launch} {e : Env} {s : State} {m : MethodId} {below : List Frame} {meth : Method} {c : Code} {b L : Nat} {xs : Nat → Int32} {D : va_G} {cy : Nat → ClassId} {a0 a1 a2 : Nat}
theorem law_next (F : lwF p s m c meth b L xs D cy) {i cells slots : Nat} (nx : lwG p l e s m below meth c b D cy a0 a1 a2 23 (i + 4) cells slots) : lwG p l e s m below meth c b D cy a0 a1 a2 1474 i cells slots := by
  intro K ad g H locs ls hP hS hI h0 h1 h2 hl
  obtain ⟨C0, hTh, hNc, hN, hX, hbl, hL⟩ := F
  have hx := C0.1; have hb := C0.2.1
  refine lv_iinc (k := 4) (v := nI (i + 4)) (lv' := [(4, .int (nI (i + 4))), (0, .ref b), (1, .ref a0), (2, .ref a1), (3, .ref a2)]) hx hb dL_law_1474 hl rfl (by rw [show Int32.ofInt 4 = nI 4 by decide]; exact nI_add i 4) (by decide) rfl (fun ls hl => ?_)
  refine lv_goto (tgt := 23) hx hb dL_law_1477 (by decide) ?_
  exact nx _ _ _ _ _ _ hP hS hI h0 h1 h2 (lv_sub hl [1, 2, 3, 4, 0] rfl)
theorem len_gt {L i : Nat} (hL : L ≤ 2048) (hi : i ≤ 2048) : Int32.ofNat L - 4 < nI i ↔ L < i + 4 := by
  have e1 : (Int32.ofNat L).toInt = (L : Int) := nI_toInt (n := L) (by omega)
  have e2 : (nI i).toInt = (i : Int) := nI_toInt (by omega)
  have e4 : (4 : Int32).toInt = 4 := rfl
  have e3 : (Int32.ofNat L - 4).toInt = (L : Int) - 4 := by rw [i_sub (by omega) (by omega), e1, e4]
  rw [Int32.lt_iff_toInt_lt, e3, e2]
  omega
theorem sw_rng {v : Int32} (h : ¬ (v.toInt < 0 ∨ 24 < v.toInt)) : ∃ k, k < 25 ∧ v = nI k := by
  refine z_rng (b := 25) (by decide) (fun q => h ?_)
  have e0 : (0 : Int32).toInt = 0 := rfl
  have e25 : (nI 25).toInt = 25 := rfl
  rcases q with q | q
  · rw [Int32.lt_iff_toInt_lt, e0] at q; exact Or.inl q
  · rw [Int32.le_iff_toInt_le, e25] at q; exact Or.inr (by omega)
set_option maxHeartbeats 2000000 in
set_option maxRecDepth 20000 in
theorem law_loop (hfl : l.stackTraces = false) (F : lwF p s m c meth b L xs D cy) (hr : meth.sig.returnType = ret) : ∀ (N t : Nat), L - 4 * t < N → 4 * t ≤ L → lwG p l e s m below meth c b D cy a0 a1 a2 23 (4 * t) (300 + 31 * t) (5000 + 260 * t)
  | 0, t, hN, _ => absurd hN (Nat.not_lt_zero _)
  | N + 1, t, hN, ht => by
    intro K ad g H locs ls hP hS hI h0 h1 h2 hl
    have F0 := F
    obtain ⟨C0, hTh, hNc, hN9, hX, hbl, hL⟩ := F0
    have hx := C0.1; have hb := C0.2.1; have hlk := C0.2.2.2.2.2.2.2
    have hbA : ¬ s.heap.size ≤ b := Nat.not_le.mpr hbl
    refine lv_iload hx hb dL_law_23 (lv_at hl 4 rfl) ?_
    refine lv_aload_n hx hb dL_law_25 rfl (lv_at hl 0 rfl) ?_
    refine va_slen hx hb hX hbl hbA hS dL_law_26 ?_
    refine lv_iconst (v := 4) hx hb dL_law_27 (by decide) ?_
    refine lv_isub hx hb dL_law_28 ?_
    refine lv_icmp_gt (tgt := 1480) hx hb dL_law_29 (by decide) (fun hgt => ?_) (fun hgt => ?_)
    · refine lv_iconst (v := 1) hx hb dL_law_1480 (by decide) ?_
      refine W.widen (k := 601024) (n := 7293034) (by omega) (by omega) ?_
      refine va_forget hS.2.2 ?_
      exact W.base (lw_ret (d0 := s.drawn) (Drawn.sameBut.refl s.drawn lw_cs) hx hb hr hlk dL_law_1481)
    · have hi : 4 * t + 4 ≤ L := by
        have h9 : ¬ L < 4 * t + 4 := fun q => hgt ((len_gt hL (by omega)).mpr q)
        omega
      have ih := law_loop hfl F hr N (t + 1) (by omega) (by omega)
      rw [show 4 * (t + 1) = 4 * t + 4 by omega, show 300 + 31 * (t + 1) = 300 + 31 * t + 31 by omega, show 5000 + 260 * (t + 1) = 5000 + 260 * t + 260 by omega] at ih
      have nx := law_next F ih
      have hc : 300 + 31 * t + 31 ≤ 601024 := by omega
      have hs : 5000 + 260 * t + 260 ≤ 7293034 := by omega
      refine lv_aload_n hx hb dL_law_32 rfl (lv_at hl 0 rfl) ?_
      refine lv_iload hx hb dL_law_33 (lv_at hl 4 rfl) ?_
      refine va_sld hx hb hX hbl hbA hS (vp_in_nI (by omega) (by omega)) dL_law_35 ?_
      refine lv_bipush (v := 31) hx hb dL_law_36 (by decide) ?_
      refine lv_iand hx hb dL_law_38 ?_
      refine lv_topi (fun v _ => ?_)
      by_cases hv : v.toInt < 0 ∨ 24 < v.toInt
      · exact lv_tableOut (tgt := 1474) hx hb dL_law_39 hv (by decide) (W.widen (k := 300 + 31 * t + 31) (n := 5000 + 260 * t + 260) (by omega) (by omega) (nx _ _ _ _ _ _ hP hS hI h0 h1 h2 hl))
      · obtain ⟨k, hk, rfl⟩ := sw_rng hv
        obtain rfl | rfl | rfl | rfl | rfl | rfl | rfl | rfl | rfl | rfl | rfl | rfl | rfl | rfl | rfl | rfl | rfl | rfl | rfl | rfl | rfl | rfl | rfl | rfl | rfl : k = 0 ∨ k = 1 ∨ k = 2 ∨ k = 3 ∨ k = 4 ∨ k = 5 ∨ k = 6 ∨ k = 7 ∨ k = 8 ∨ k = 9 ∨ k = 10 ∨ k = 11 ∨ k = 12 ∨ k = 13 ∨ k = 14 ∨ k = 15 ∨ k = 16 ∨ k = 17 ∨ k = 18 ∨ k = 19 ∨ k = 20 ∨ k = 21 ∨ k = 22 ∨ k = 23 ∨ k = 24 := by omega
        · exact lv_tableIn (off := 113) (tgt := 152) hx hb dL_law_39 (by decide) (by decide) (by decide) (by decide) (lc_tie hfl F hi hc hs nx _ _ _ _ _ _ hP hS hI h0 h1 h2 hl)
        · exact lv_tableIn (off := 181) (tgt := 220) hx hb dL_law_39 (by decide) (by decide) (by decide) (by decide) (lc_add hfl F hi hc hs nx _ _ _ _ _ _ hP hS hI h0 h1 h2 hl)
        · exact lv_tableIn (off := 249) (tgt := 288) hx hb dL_law_39 (by decide) (by decide) (by decide) (by decide) (lc_slip hfl F hi hc hs nx _ _ _ _ _ _ hP hS hI h0 h1 h2 hl)
        · exact lv_tableIn (off := 317) (tgt := 356) hx hb dL_law_39 (by decide) (by decide) (by decide) (by decide) (lc_mend hfl F hi hc hs nx _ _ _ _ _ _ hP hS hI h0 h1 h2 hl)
        · exact lv_tableIn (off := 373) (tgt := 412) hx hb dL_law_39 (by decide) (by decide) (by decide) (by decide) (lc_renew hfl F hi hc hs nx _ _ _ _ _ _ hP hS hI h0 h1 h2 hl)
        · exact lv_tableIn (off := 429) (tgt := 468) hx hb dL_law_39 (by decide) (by decide) (by decide) (by decide) (lc_dye hfl F hi hc hs nx _ _ _ _ _ _ hP hS hI h0 h1 h2 hl)
        · exact lv_tableIn (off := 497) (tgt := 536) hx hb dL_law_39 (by decide) (by decide) (by decide) (by decide) (lc_set hfl F hi hc hs nx _ _ _ _ _ _ hP hS hI h0 h1 h2 hl)
        · exact lv_tableIn (off := 553) (tgt := 592) hx hb dL_law_39 (by decide) (by decide) (by decide) (by decide) (lc_append hfl F hi hc hs nx _ _ _ _ _ _ hP hS hI h0 h1 h2 hl)
        · exact lv_tableIn (off := 609) (tgt := 648) hx hb dL_law_39 (by decide) (by decide) (by decide) (by decide) (lc_clearBuffer hfl F hi hc hs nx _ _ _ _ _ _ hP hS hI h0 h1 h2 hl)
        · exact lv_tableIn (off := 622) (tgt := 661) hx hb dL_law_39 (by decide) (by decide) (by decide) (by decide) (lc_firstError hfl F hi hc hs nx _ _ _ _ _ _ hP hS hI h0 h1 h2 hl)
        · exact lv_tableIn (off := 635) (tgt := 674) hx hb dL_law_39 (by decide) (by decide) (by decide) (by decide) (lc_run hfl F hi hc hs nx _ _ _ _ _ _ hP hS hI h0 h1 h2 hl)
        · exact lv_tableIn (off := 679) (tgt := 718) hx hb dL_law_39 (by decide) (by decide) (by decide) (by decide) (lc_keep hfl F hi hc hs nx _ _ _ _ _ _ hP hS hI h0 h1 h2 hl)
        · exact lv_tableIn (off := 735) (tgt := 774) hx hb dL_law_39 (by decide) (by decide) (by decide) (by decide) (lc_goBack hfl F hi hc hs nx _ _ _ _ _ _ hP hS hI h0 h1 h2 hl)
        · exact lv_tableIn (off := 791) (tgt := 830) hx hb dL_law_39 (by decide) (by decide) (by decide) (by decide) (lc_undo hfl F hi hc hs nx _ _ _ _ _ _ hP hS hI h0 h1 h2 hl)
        · exact lv_tableIn (off := 835) (tgt := 874) hx hb dL_law_39 (by decide) (by decide) (by decide) (by decide) (lc_cordOf hfl F hi hc hs nx _ _ _ _ _ _ hP hS hI h0 h1 h2 hl)
        · exact lv_tableIn (off := 903) (tgt := 942) hx hb dL_law_39 (by decide) (by decide) (by decide) (by decide) (lc_placeOf hfl F hi hc hs nx _ _ _ _ _ _ hP hS hI h0 h1 h2 hl)
        · exact lv_tableIn (off := 983) (tgt := 1022) hx hb dL_law_39 (by decide) (by decide) (by decide) (by decide) (lc_part hfl F hi hc hs nx _ _ _ _ _ _ hP hS hI h0 h1 h2 hl)
        · exact lv_tableIn (off := 1051) (tgt := 1090) hx hb dL_law_39 (by decide) (by decide) (by decide) (by decide) (lc_count hfl F hi hc hs nx _ _ _ _ _ _ hP hS hI h0 h1 h2 hl)
        · exact lv_tableIn (off := 1107) (tgt := 1146) hx hb dL_law_39 (by decide) (by decide) (by decide) (by decide) (lc_byHue hfl F hi hc hs nx _ _ _ _ _ _ hP hS hI h0 h1 h2 hl)
        · exact lv_tableIn (off := 1163) (tgt := 1202) hx hb dL_law_39 (by decide) (by decide) (by decide) (by decide) (lc_whyNot hfl F hi hc hs nx _ _ _ _ _ _ hP hS hI h0 h1 h2 hl)
        · exact lv_tableIn (off := 1231) (tgt := 1270) hx hb dL_law_39 (by decide) (by decide) (by decide) (by decide) (lc_howOften hfl F hi hc hs nx _ _ _ _ _ _ hP hS hI h0 h1 h2 hl)
        · exact lv_tableIn (off := 1299) (tgt := 1338) hx hb dL_law_39 (by decide) (by decide) (by decide) (by decide) (lc_cordsFor hfl F hi hc hs nx _ _ _ _ _ _ hP hS hI h0 h1 h2 hl)
        · exact lv_tableIn (off := 1367) (tgt := 1406) hx hb dL_law_39 (by decide) (by decide) (by decide) (by decide) (lc_fullest hfl F hi hc hs nx _ _ _ _ _ _ hP hS hI h0 h1 h2 hl)
        · exact lv_tableIn (off := 1380) (tgt := 1419) hx hb dL_law_39 (by decide) (by decide) (by decide) (by decide) (lc_closedShare hfl F hi hc hs nx _ _ _ _ _ _ hP hS hI h0 h1 h2 hl)
        · exact lv_tableIn (off := 1421) (tgt := 1460) hx hb dL_law_39 (by decide) (by decide) (by decide) (by decide) (lc_digest hfl F hi hc hs nx _ _ _ _ _ _ hP hS hI h0 h1 h2 hl)
end ZLC
