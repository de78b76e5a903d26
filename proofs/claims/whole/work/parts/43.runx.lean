def zXCr (D : va_G) (cy : Nat → ClassId) (K : Nat) (ad : Nat → Nat) (sz : Nat) (E : String) (post : (Nat → va_E) → Prop) : String → State → State → Prop := vx_X post (fun E' u t => E' = E ∧ zOut D cy K ad sz u t) (zA K ad sz)
/-- a method that throws E and leaves a world of a kind -/
def zXMr (l : Launch) (y : MethodName) (bytes : ByteArray) (maxL : Nat) (ret : Option FieldType) (rm : Room) (av : List Value) (D : va_G) (cy : Nat → ClassId) (K : Nat) (ad : Nat → Nat) (g : Nat → va_E) (sz : Nat) (E : String) (post : (Nat → va_E) → Prop) : Prop := vx_Met l y (zs y bytes maxL ret) rm (va_Pc av (zInX D cy K ad g sz)) (fun _ _ _ _ => False) (zXCr D cy K ad sz E post) 1 6 (zA K ad sz)
theorem z_xmono {p : Program} {l : Launch} {e : Env} {R : Room} {s : State} {m : MethodId} {args : Array Value} {below : List Frame} {meth : Method} {c : Code} {H : Heap} {locs : List Loc} {cells slots : Nat} {D : va_G} {cy : Nat → ClassId} {K : Nat} {ad : Nat → Nat} {g1 : Nat → va_E} {sz mc ms : Nat} {E : String} {post : (Nat → va_E) → Prop} {Qc : Array Value → State → Outcome → State → Prop} {free : Addr → Prop} {F9 : JFrame} (hp : post g1)
    (k : W p l e R s m args below meth c H locs cells slots (vx_MQ below Qc (zXC D cy K ad g1 sz E) args s mc ms free) F9) : W p l e R s m args below meth c H locs cells slots (vx_MQ below Qc (zXCr D cy K ad sz E post) args s mc ms free) F9 := by
  intro T hT X
  obtain ⟨t, a1, o, b1, b2, b3⟩ := k T hT X
  refine ⟨t, a1, o, b1, b2, ?_⟩
  rcases b3 with b3 | ⟨q, c1, E', ce, L, ⟨u, -, ho, hF⟩, c2⟩
  · exact Or.inl b3
  · exact Or.inr ⟨q, c1, E', ce, L, ⟨g1, hp, ho, hF⟩, c2⟩
section ZXE
variable {l : Launch} {D : va_G} {cy : Nat → ClassId} {K : Nat} {ad : Nat → Nat} {g : Nat → va_E}
theorem z_metXr {y : MethodName} {bytes : ByteArray} {maxL : Nat} {ret : Option FieldType} {rm : Room} {av : List Value} {sz : Nat} {E : String} {post : (Nat → va_E) → Prop} (hy : plainName y.cls = true) (hlen : (lg_sl av).length ≤ maxL)
    (body : ∀ (p : Program) (e : Env) (s : State) (m : MethodId) (below : List Frame) (meth : Method) (c : Code) (ls : Array Slot), sz = s.heap.size → lv_has ls maxL (lv_args 0 av) → zC p s m av.toArray c meth bytes maxL y.cls D cy (zA K ad s.heap.size) → (∀ x ∈ c.exceptionTable.toList, False) → zTh (zA K ad s.heap.size) s s.heap → zP D K ad g (zA K ad s.heap.size) s.heap → va_S (zA K ad s.heap.size) s.heap s.heap [] →
      W p l e rm s m av.toArray below meth c s.heap [] 0 0 (vx_MQ below (fun _ _ _ _ => False) (zXCr D cy K ad s.heap.size E post) av.toArray s 1 6 (zA K ad s.heap.size)) (F0 m 0 ls [])) : zXMr l y bytes maxL ret rm av D cy K ad g sz E post := by
  refine vx_ofW (cc := bytes) (maxL := maxL) (ret := ret) hy rfl ?_
  intro p e s m args below meth c s₁ B hml hex hv
  obtain ⟨rfl, ⟨hsz, hP, hK, hD0⟩, hT⟩ := hv
  have hts := atoms_spec (ws := zs y bytes maxL ret) B.pre
  have hown : s.vm.findClass y.cls = some m.cls := findClass_of_methodNamed B.named
  have hl := lv_entry av (n := maxL) hlen
  rw [lg_entry_eq]
  subst hsz
  have hD : va_D (zA K ad s.heap.size) (zw K ad g) := zw_D hD0 (fun n hn _ => Or.inl ⟨n, hn, rfl⟩)
  exact body p e s m below meth c _ rfl hl ⟨B.exec, B.bytes, hml, hown, fun w h => hts w (List.mem_cons_of_mem _ h), hK, fun q h => Or.inr h, B.notSynchronized⟩ hex hT ⟨hP, hD⟩ va_S.rf
end ZXE
set_option maxHeartbeats 4000000 in
set_option maxRecDepth 100000 in
theorem x_X4_run_iae (l : Launch) (hfl : l.stackTraces = false) {D : va_G} {cy : Nat → ClassId} {K : Nat} {ad : Nat → Nat} {g : Nat → va_E} (sz : Nat) {st : Nat → Int32} {sv : Nat → Nat → Int32} {nx sz2 : Nat} {ns : Nat → Option Nat} {ss : Nat → Nat → Int32} {bu : Nat → Int32} {ln : Nat} (hTT : isT cy K ad g st sv nx sz2 ns ss bu ln) (hln : ln ≤ 60) (hbu : ∀ k, k < ln → ¬ bu k < 33 ∧ bu k ≤ 126) (hbd : ¬ (errN bu rs0 ln = ln ∧ (rdEnd bu rs0 ln).1 = 3)) : zXMr l yX4_run cX4_run 4 (some .int) ({ frames := 10, cells := 1, slots := 6, locals := 160 } : Room) [.ref (ad 0)] D cy K ad g sz zIAE (fun g1 => isT cy K ad g1 st sv nx sz2 ns ss bu ln ∧ zFr zCl g g1) := by
  refine z_metXr (by decide) (Nat.le_of_ble_eq_true rfl) (fun p e s m below meth c ls hsz hl C0 hex hT hP hS => ?_)
  subst hsz
  have hl : lv_has ls 4 [(0, .ref (ad 0))] := hl
  have hx := C0.1; have hb := C0.2.1; have hown := C0.2.2.2.1; have hts := C0.2.2.2.2.1
  have hFr : zFr (zCl) g g := zFr.rf
  obtain ⟨sn, tl, rs, x, hX, hH, hHi, hRs, hTr, hSn⟩ := id hTT
  have hR : isR cy K ad g 215 rs.1 rs.2.1 rs.2.2.1 rs.2.2.2.1 rs.2.2.2.2 := hRs
  refine lv_aload_n hx hb dX4_run_0 rfl (lv_at hl 0 rfl) ?_
  refine z_Vi_mo (As := []) (rest := []) C0 hP hS hl.1 (m_X4_readBuffer l _ hX hR hln hbu) lk_X4_111 hX.n0 hX.o rfl rfl (Nat.le_of_ble_eq_true rfl) ⟨Nat.le_of_ble_eq_true rfl, Nat.le_of_ble_eq_true rfl⟩ rfl rfl ⟨Nat.zero_le _, Nat.zero_le _⟩ dX4_run_1 (fun r_1 g_1 H locs hP hS hp => ?_)
  obtain ⟨h1, ⟨q, hR, hq⟩, hF1⟩ := hp
  have hX := hX.kept hF1 (by first | (dsimp only [zOne, zRg, zCl]; omega) | (dsimp only; omega) | omega)
  have hH := hH.kept hF1 (by intro z9 h8 h9; first | (dsimp only [zOne, zRg, zCl]; omega) | (dsimp only; omega) | omega)
  have hHi := hHi.kept hF1 (by intro z9 h8 h9; first | (dsimp only [zOne, zRg, zCl]; omega) | (dsimp only; omega) | omega)
  have hTr := hTr.kept hF1 (by intro z9 h8 h9; first | (dsimp only [zOne, zRg, zCl]; omega) | (dsimp only; omega) | omega)
  have hSn := hSn.kept hF1 (by intro z9 h8; first | (dsimp only [zOne, zRg, zCl]; omega) | (dsimp only; omega) | omega)
  have hFr := hFr.tr (hF1.mono (by intro x9 hx9; first | (dsimp only [zOne, zRg, zCl] at hx9 ⊢; omega) | (dsimp only at hx9 ⊢; omega) | omega))
  have hE := errN_sim (bu := bu) (rdSim0 rs.2.1 rs.2.2.1 rs.2.2.2.1 rs.2.2.2.2) ln
  rw [hE] at h1
  subst h1
  have hR : isR cy K ad g_1 215 q.1 q.2.1 q.2.2.1 q.2.2.2.1 q.2.2.2.2 := hR
  refine lv_aload_n hx hb dX4_run_4 rfl (lv_at hl 0 rfl) ?_
  refine z_get C0 hP hX.n0 hX.o fd_X4_31 rfl dX4_run_5 ?_
  refine lv_icmp_lt (tgt := 21) hx hb dX4_run_8 (by decide) (fun c_8 => ?_) (fun c_8 => ?_)
  · exact z_xmono ⟨⟨_, _, q, _, hX, hH, hHi, hR, hTr, hSn⟩, hFr⟩ (z_throw C0 rfl hfl hex hT hP hS hl.1 (text := "the buffer does not tell orders") thf_iae (by decide +kernel) dX4_run_21 dX4_run_24 dX4_run_25 dX4_run_27 dX4_run_30 (Nat.le_of_ble_eq_true rfl) (Nat.le_of_ble_eq_true rfl) (Nat.le_of_ble_eq_true rfl) (Nat.le_of_ble_eq_true rfl) (Nat.le_of_ble_eq_true rfl) (Nat.le_of_ble_eq_true rfl) (Nat.le_of_ble_eq_true rfl))
  · have hE2 : errN bu rs0 ln = ln := by have h9 := z_lt_f c_8 (by have := errN_le bu rs0 ln; omega) (by omega); have := errN_le bu rs0 ln; omega
    have hq3 : ¬ q.1 = 3 := fun h9 => hbd ⟨hE2, by rw [← (rdSim_end (bu := bu) (rdSim0 rs.2.1 rs.2.2.1 rs.2.2.2.1 rs.2.2.2.2) ln).1, ← hq (hE.trans hE2)]; exact h9⟩
    refine lv_aload_n hx hb dX4_run_11 rfl (lv_at hl 0 rfl) ?_
    refine z_get C0 hP hX.n0 hX.o fd_X4_38 rfl dX4_run_12 ?_
    refine z_Vi_eq (As := []) (rest := []) C0 hP hS hl.1 (m_X3_hasWholeOrder l _ hR) lk_X4_115 hR.n0 hR.o rfl rfl (Nat.le_of_ble_eq_true rfl) ⟨Nat.le_of_ble_eq_true rfl, Nat.le_of_ble_eq_true rfl⟩ rfl rfl ⟨Nat.zero_le _, Nat.zero_le _⟩ dX4_run_15 (fun H locs hP hS => ?_)
    refine lv_if_ne (tgt := 31) hx hb dX4_run_18 (by decide) (fun c_18 => absurd (show ¬ (if q.1 = 3 then (1 : Int32) else 0) = 0 from c_18) (fun h9 => h9 (if_neg hq3))) (fun c_18 => ?_)
    exact z_xmono ⟨⟨_, _, q, _, hX, hH, hHi, hR, hTr, hSn⟩, hFr⟩ (z_throw C0 rfl hfl hex hT hP hS hl.1 (text := "the buffer does not tell orders") thf_iae (by decide +kernel) dX4_run_21 dX4_run_24 dX4_run_25 dX4_run_27 dX4_run_30 (Nat.le_of_ble_eq_true rfl) (Nat.le_of_ble_eq_true rfl) (Nat.le_of_ble_eq_true rfl) (Nat.le_of_ble_eq_true rfl) (Nat.le_of_ble_eq_true rfl) (Nat.le_of_ble_eq_true rfl) (Nat.le_of_ble_eq_true rfl))
