/-! ===== keep, where the slot is empty: a new herd ===== -/
section
variable {p : Program} {l : Launch} {e : Env} {R : Room} {s : State} {m : MethodId} {args : Array Value} {below : List Frame} {meth : Method} {c : Code} {H : Heap} {locs : List Loc} {cells slots : Nat} {Q : State → Prop}
variable {D : va_G} {cy : Nat → ClassId} {K K1 : Nat} {ad ad1 : Nat → Nat} {g g1 : Nat → va_E} {A : Nat → Prop} {cc : ByteArray} {own : String} {nL pc : Nat} {ls : Array Slot} {rest : List Value}
theorem z_iretN (C0 : zC p s m args c meth cc nL own D cy (zA K ad s.heap.size)) (hP : zP D K1 ad1 g1 (zA K ad s.heap.size) H) (hS : va_S (zA K ad s.heap.size) s.heap H locs) {v : Int32} {post : Int32 → zU → Prop} (hr : meth.sig.returnType = some .int) (hp : post v (K1, ad1, g1)) (hdg : decode cc pc = .ok (.ireturn, 1)) :
    W p l e R s m args below meth c H locs cells slots (MQ below (va_Qi post (zOutN D cy K ad s.heap.size) (zA K ad s.heap.size)) args s cells slots (zA K ad s.heap.size)) (F0 m pc ls [.int v]) :=
  W.iret (v := v) C0.1 C0.2.1 hr (fun t ht hW => ⟨⟨v, (K1, ad1, g1), rfl, hp, ⟨by rw [ht]; exact hP.1, va_K.moved hW.alike C0.2.2.2.2.2.1, hP.2⟩⟩, hS.F ht⟩) hS.2.2 hdg C0.2.2.2.2.2.2.2
end
theorem isSn.new {cy : Nat → ClassId} {K : Nat} {ad : Nat → Nat} {g g1 : Nat → va_E} {sn ns : Nat → Option Nat} {ss : Nat → Nat → Int32} {st : Nat → Int32} (h : isSn cy K ad g sn ns ss) {j na : Nat} (hj : j < 2) (hns : ns j = none) (hna : 221 ≤ na) (hsep : ∀ i a, ns i = some a → i < 2 → a + 30 ≤ na) (hf : ∀ i a, i < 2 → ns i = some a → ∀ x, a ≤ x → x < a + 30 → g1 x = g x) (hS : isH cy K ad g1 na st) : isSn cy K ad g1 (va_up sn j (some (ad na))) (va_up ns j (some na)) (va_up ss j st) := by
  refine ⟨fun i hi => ?_, fun a b ha hb => ?_⟩
  · by_cases hij : i = j
    · subst hij
      rw [va_up_self, va_up_self, va_up_self]
      refine ⟨rfl, fun a ha => ?_⟩
      cases ha
      exact ⟨hna, hS⟩
    · rw [va_up_ne _ _ hij, va_up_ne _ _ hij, va_up_ne _ _ hij]
      refine ⟨(h.1 i hi).1, fun a ha => ⟨((h.1 i hi).2 a ha).1, ?_⟩⟩
      exact ((h.1 i hi).2 a ha).2.kept (P := fun x => ¬ (a ≤ x ∧ x < a + 30)) (fun x hx => by
        have hx := Classical.not_not.mp hx
        exact hf i a hi ha x hx.1 hx.2) (fun z h1 h2 => fun q => q ⟨h1, h2⟩)
  · have c : j = 0 ∨ j = 1 := by omega
    rcases c with rfl | rfl
    · rw [va_up_self] at ha
      rw [va_up_ne _ _ (by decide)] at hb
      cases ha
      exact Or.inr (hsep 1 b hb (by decide))
    · rw [va_up_self] at hb
      rw [va_up_ne _ _ (by decide)] at ha
      cases hb
      exact Or.inl (hsep 0 a ha (by decide))
set_option maxHeartbeats 4000000 in
set_option maxRecDepth 100000 in
theorem m_X4_keepN (l : Launch) {D : va_G} {cy : Nat → ClassId} {K : Nat} {ad : Nat → Nat} {g : Nat → va_E} (sz : Nat) {st : Nat → Int32} {sv : Nat → Nat → Int32} {nx sz2 : Nat} {ns : Nat → Option Nat} {ss : Nat → Nat → Int32} {bu : Nat → Int32} {ln : Nat} {jz : Nat} (hTT : isT cy K ad g st sv nx sz2 ns ss bu ln) (hK : 221 ≤ K) (hj : jz < 2) (hns : ns jz = none) :
    Met l yX4_keep (zs yX4_keep cX4_keep 3 (some .int)) ({ frames := 4, cells := 30, slots := 252, locals := 120 } : Room) (va_Pc [.ref (ad 0), .int (nI jz)] (zInN D cy K ad g sz)) (va_Qi (fun r (u : zU) => r = sumN (allK st) 7 + sumN (allL st) 7 ∧ u.1 = K + 30 ∧ (∀ x, x < K → u.2.1 x = ad x) ∧ (∀ x, x < K → ¬ zCl x → u.2.2 x = g x) ∧ isT cy (K + 30) u.2.1 u.2.2 st sv nx sz2 (va_up ns jz (some K)) (va_up ss jz st) bu ln) (zOutN D cy K ad sz) (zA K ad sz)) 30 252 (zA K ad sz) := by
  refine z_metN (by decide) (Nat.le_of_ble_eq_true rfl) (fun p e s m below meth c ls hsz hl C0 hN hr hnm hP hS => ?_)
  subst hsz
  have hl : lv_has ls 3 [(0, .ref (ad 0)), (1, .int (nI jz))] := hl
  have hx := C0.1; have hb := C0.2.1; have hown := C0.2.2.2.1; have hts := C0.2.2.2.2.1
  obtain ⟨sn, tl, rs, x, hX, hH, hHi, hRs, hTr, hSn⟩ := id hTT
  refine lv_iload_n hx hb dX4_keep_0 rfl (lv_at hl 1 rfl) ?_
  refine z_Sv_eq (As := [.int (nI jz)]) (rest := []) C0 hP hS hl.1 (m_X4_checkSlot l _ hj) lk_X4_131 rfl rfl (Nat.le_of_ble_eq_true rfl) ⟨Nat.le_of_ble_eq_true rfl, Nat.le_of_ble_eq_true rfl⟩ rfl rfl ⟨Nat.zero_le _, Nat.zero_le _⟩ dX4_keep_1 (fun H locs hP hS => ?_)
  refine lv_aload_n hx hb dX4_keep_4 rfl (lv_at hl 0 rfl) ?_
  refine z_get C0 hP hX.n0 hX.o fd_X4_23 rfl dX4_keep_5 ?_
  refine lv_iload_n hx hb dX4_keep_8 rfl (lv_at hl 1 rfl) ?_
  refine z_aald C0 hP hX.n213 hX.a_sn rfl (zIx_nI (by omega) (by decide)) (congrArg va_rf (((hSn.1 jz hj).1).trans (congrArg (Option.map ad) hns))) dX4_keep_9 ?_
  refine lv_astore_nN (lv' := [(2, .null), (0, .ref (ad 0)), (1, .int (nI jz))]) hx hb dX4_keep_10 rfl hl (by decide) rfl (fun ls hl => ?_)
  refine lv_aload_nN hx hb dX4_keep_11 rfl (lv_at hl 0 rfl) ?_
  refine lv_ifnonnullN hx hb dX4_keep_12 ?_
  refine z_newc C0 hP hS zn_X4_7 (Nat.le_of_ble_eq_true rfl) (Nat.le_of_ble_eq_true rfl) dX4_keep_15 (fun ad2 g2 q2 H hgr hq9 hn9 hP hS => ?_)
  refine lv_dup hx hb dX4_keep_18 rfl ?_
  refine z_callvN C0 hP hS (z_runI (rest := [.ref q2]) C0 hN hP hl.1 (m_X1_init l _ hn9) zl_X4_9 hq9 (Nat.le_of_ble_eq_true rfl) rfl rfl ⟨Nat.le_of_ble_eq_true rfl, Nat.le_of_ble_eq_true rfl⟩ ⟨Nat.le_of_ble_eq_true rfl, Nat.le_of_ble_eq_true rfl⟩ dX4_keep_19) (fun K1 ad3 g3 H locs hP hS hp => ?_)
  obtain ⟨hK1, hgr1, hgr2, hD⟩ := hp
  dsimp only at hK1 hgr1 hgr2 hD
  subst hK1
  have ea : ∀ x, x < K → ad3 x = ad x := fun x h9 => (hgr1 x (by omega)).trans (hgr.1 x h9)
  have eg : ∀ x, x < K → g3 x = g x := fun x h9 => (hgr2 x (by omega)).trans (hgr.2 x h9)
  have hTT2 := hTT.gr (K1 := K + 30) (by omega) ea eg
  have eK : ad3 K = q2 := (hgr1 K (by omega)).trans hq9
  have hsep : ∀ i a, ns i = some a → i < 2 → a + 30 ≤ K := fun i a h9 hi => ((hSn.1 i hi).2 a h9).2.lt
  have hFr : zFr (fun x9 => zCl x9 ∨ K ≤ x9) g g3 := fun x9 h9 => eg x9 (Nat.lt_of_not_le (fun q => h9 (Or.inr q)))
  clear hX hH hHi hRs hTr hSn sn tl rs x
  obtain ⟨sn, tl, rs, x, hX, hH, hHi, hRs, hTr, hSn⟩ := hTT2
  have hR : isR cy (K + 30) ad3 g3 215 rs.1 rs.2.1 rs.2.2.1 rs.2.2.2.1 rs.2.2.2.2 := hRs
  refine lv_astore_n (lv' := [(2, .ref q2), (0, .ref (ad 0)), (1, .int (nI jz))]) hx hb dX4_keep_22 rfl hl (by decide) rfl (fun ls hl => ?_)
  have hl : lv_has ls 3 [(2, .ref (ad3 K)), (0, .ref (ad3 0)), (1, .int (nI jz))] := by rw [eK, ea 0 (by omega)]; exact hl
  refine lv_aload_n hx hb dX4_keep_23 rfl (lv_at hl 1 rfl) ?_
  refine z_get C0 hP hX.n0 hX.o fd_X4_23 rfl dX4_keep_24 ?_
  refine lv_iload_n hx hb dX4_keep_27 rfl (lv_at hl 2 rfl) ?_
  refine lv_aload_n hx hb dX4_keep_28 rfl (lv_at hl 0 rfl) ?_
  obtain ⟨vs9, ho9⟩ := hD.rc
  refine z_aastq C0 hP hS rfl rfl hX.n213 hX.a_sn (ci := 1) rfl (t0 := 4) rfl (by omega) ho9 (zIx_nI (by omega) (by decide)) dX4_keep_29 (fun g4 H locs hne hs9 hP hS => ?_)
  have hFr : zFr (fun x9 => zCl x9 ∨ K ≤ x9) g g4 := fun x9 h9 => (hne x9 (fun q => h9 (Or.inl (by dsimp only [zCl]; omega)))).trans (hFr x9 h9)
  have hF1 : zFr (zOne 213) g3 g4 := fun x9 h9 => hne x9 h9
  have hX : isX cy (K + 30) ad3 g4 0 (va_up sn jz (some (ad3 K))) bu tl (nI ln) := ⟨hX.1, (hne 0 (by decide)).trans hX.o, hs9, (hne 214 (by decide)).trans hX.a_bu, (hne 220 (by decide)).trans hX.a_tl⟩
  have hH := hH.kept hF1 (by intro z9 h8 h9; dsimp only [zOne]; omega)
  have hHi := hHi.kept hF1 (by intro z9 h8 h9; dsimp only [zOne]; omega)
  have hR := hR.kept hF1 (by dsimp only [zOne]; omega)
  have hTr := hTr.kept hF1 (by intro z9 h8 h9; dsimp only [zOne]; omega)
  have hSn := hSn.kept hF1 (by intro z9 h8; dsimp only [zOne]; omega)
  have hD := hD.kept hF1 (by intro z9 h8 h9; dsimp only [zOne]; omega)
  have hD : isH cy (K + 30) ad3 g4 K st0 := hD
  refine lv_aload_n hx hb dX4_keep_30 rfl (lv_at hl 0 rfl) ?_
  refine lv_aload_n hx hb dX4_keep_31 rfl (lv_at hl 1 rfl) ?_
  refine z_get C0 hP hX.n0 hX.o fd_X4_10 rfl dX4_keep_32 ?_
  obtain ⟨fs_35, hfs_35⟩ := hD.rc
  refine z_Vv_mo (As := [.ref (ad3 1)]) (rest := []) C0 hP hS hl.1 (m_X1_copyFrom l _ hD hH (by omega)) lk_X4_134 hD.n0 hfs_35 rfl rfl (Nat.le_of_ble_eq_true rfl) ⟨Nat.le_of_ble_eq_true rfl, Nat.le_of_ble_eq_true rfl⟩ rfl rfl ⟨Nat.le_of_ble_eq_true rfl, Nat.le_of_ble_eq_true rfl⟩ dX4_keep_35 (fun g_1 H locs hP hS hp => ?_)
  obtain ⟨hS2, hF2⟩ := hp
  have hX := hX.kept hF2 (by dsimp only [zRg]; omega)
  have hH := hH.kept hF2 (by intro z9 h8 h9; dsimp only [zRg]; omega)
  have hHi := hHi.kept hF2 (by intro z9 h8 h9; dsimp only [zRg]; omega)
  have hR := hR.kept hF2 (by dsimp only [zRg]; omega)
  have hTr := hTr.kept hF2 (by intro z9 h8 h9; dsimp only [zRg]; omega)
  have hFr : zFr (fun x9 => zCl x9 ∨ K ≤ x9) g g_1 := hFr.tr (hF2.mono (fun x9 h9 => Or.inr (by dsimp only [zRg] at h9; omega)))
  have hSn := hSn.new hj hns (na := K) hK hsep (fun i a hi h9 x9 h7 h8 => hF2 x9 (by have := hsep i a h9 hi; dsimp only [zRg]; omega)) hS2
  refine lv_aload_n hx hb dX4_keep_38 rfl (lv_at hl 1 rfl) ?_
  refine z_get C0 hP hX.n0 hX.o fd_X4_10 rfl dX4_keep_39 ?_
  obtain ⟨fs_42, hfs_42⟩ := hH.rc
  refine z_Vi_eq (As := []) (rest := []) C0 hP hS hl.1 (m_X1_ties l _ hH) lk_X4_137 hH.n0 hfs_42 rfl rfl (Nat.le_of_ble_eq_true rfl) ⟨Nat.le_of_ble_eq_true rfl, Nat.le_of_ble_eq_true rfl⟩ rfl rfl ⟨Nat.le_of_ble_eq_true rfl, Nat.le_of_ble_eq_true rfl⟩ dX4_keep_42 (fun H locs hP hS => ?_)
  exact z_iretN C0 hP hS hr ⟨rfl, rfl, ea, fun x9 h8 h9 => hFr x9 (fun q => q.elim h9 (fun q => absurd h8 (Nat.not_lt.mpr q))), ⟨_, _, rs, _, hX, hH, hHi, hR, hTr, hSn⟩⟩ dX4_keep_45
