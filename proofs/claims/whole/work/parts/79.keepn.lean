/-! ===== keep on an empty slot: a new herd; the pool grows ===== -/
section ZKN
variable {p : Program} {l : Launch} {e : Env} {R : Room} {s : State} {m : MethodId} {args : Array Value} {below : List Frame} {meth : Method} {c : Code} {H : Heap} {locs : List Loc} {cells slots : Nat} {Q : State → Prop}
variable {D : va_G} {cy : Nat → ClassId} {K K1 : Nat} {ad ad1 : Nat → Nat} {g g1 : Nat → va_E} {A : Nat → Prop} {cc : ByteArray} {own : String} {nL pc : Nat} {ls : Array Slot} {rest : List Value}
theorem z_runVN (C0 : zC p s m args c meth cc nL own D cy A) (hN : zN s) (hP : zP D K ad g A H) (hsz : ls.size = nL) {st0 As : List Value} {y : MethodName} {bytes : ByteArray} {maxL index ci b k mc ms : Nat} {ret : Option FieldType} {fs : List Value} {rm : Room} {Qc : Array Value → State → Outcome → State → Prop} {free : Addr → Prop}
    (hM : Met l y (zs y bytes maxL ret) rm (va_Pc (.ref (ad b) :: As) (zInN D cy K ad g H.size)) Qc mc ms free) (hL : zLv own index ci y bytes maxL ret k) (hn : b < K) (he : g b = .inr (ci, fs)) (hlen : As.length = k) (hst : st0 = As.reverse ++ .ref (ad b) :: rest) (hrest : (rest.map fun v => v.category).sum ≤ 8) (hrc : rm.cells = mc) (hrs : rm.slots = ms) (hR : rm.frames + 1 ≤ R.frames ∧ 8 + (maxL + 11) + rm.locals ≤ R.locals) (hf : cells + mc ≤ R.cells ∧ slots + ms ≤ R.slots) (hdg : decode cc pc = .ok (.invokevirtual index, 3)) :
    va_Run p l e R s m args below meth c H locs cells slots mc ms (F0 m pc ls st0) rest (Qc (Value.ref (ad b) :: As).toArray) free := by
  obtain ⟨Cn, T, N, hc, hG, hd⟩ := hL
  have C1 := C0
  obtain ⟨hx, hb, hml, hown, hts, hK, hA, hlk⟩ := C0
  have hq := zw_get (K := K) (ad := ad) (g := g) hn
  rw [he] at hq
  exact va_runV (As := As) (rest := rest) (b := ad b) ⟨hx, hb, hml, hown, hts⟩ hM (cwV k hts hG rfl hrc hrs hd hR) ⟨zInN_blind, va_recv hK hP.1 (ci := ci) (q0 := b) hc hq, zInN_at C1 hN hP⟩ rfl hlen hsz hst (lv_room hrest) hdg hf
theorem z_runSWN (C0 : zC p s m args c meth cc nL own D cy A) (hN : zN s) (hP : zP D K ad g A H) (hsz : ls.size = nL) {st0 As : List Value} {y : MethodName} {bytes : ByteArray} {maxL index k mc ms : Nat} {ret : Option FieldType} {hh : List (Nat × Nat × Nat × Nat)} {rm : Room} {Qc : Array Value → State → Outcome → State → Prop} {free : Addr → Prop}
    (hM : Met l y (zsH y bytes maxL ret hh) rm (va_Pc As (zInN D cy K ad g H.size)) Qc mc ms free) (hL : zLh own index y bytes maxL ret hh k) (hlen : As.length = k) (hst : st0 = As.reverse ++ rest) (hrest : (rest.map fun v => v.category).sum ≤ 8) (hrc : rm.cells = mc) (hrs : rm.slots = ms) (hR : rm.frames + 1 ≤ R.frames ∧ 8 + (maxL + 11) + rm.locals ≤ R.locals) (hf : cells + mc ≤ R.cells ∧ slots + ms ≤ R.slots) (hdg : decode cc pc = .ok (.invokestatic index, 3)) :
    va_Run p l e R s m args below meth c H locs cells slots mc ms (F0 m pc ls st0) rest (Qc As.toArray) free := by
  have C1 := C0
  obtain ⟨hx, hb, hml, hown, hts, hK, hA, hlk⟩ := C0
  exact vx_runSW (As := As) (rest := rest) ⟨hx, hb, hml, hown, hts⟩ hM (vx_cwSW k hts hL.1 rfl hrc hrs hL.2 hR) ⟨zInN_blind, zInN_at C1 hN hP⟩ rfl hlen hsz hst (lv_room hrest) hdg hf
theorem z_calliN (C0 : zC p s m args c meth cc nL own D cy A) (hP : zP D K ad g A H) (hS : va_S A s.heap H locs) {st0 : List Value} {mc ms : Nat} {av : Array Value} {post : Int32 → zU → Prop}
    (hr : va_Run p l e R s m args below meth c H locs cells slots mc ms (F0 m pc ls st0) rest (va_Qi post (zOutN D cy K ad H.size) (zA K ad H.size) av) (zA K ad H.size))
    (kk : ∀ (r : Int32) (K1 : Nat) (ad1 : Nat → Nat) (g1 : Nat → va_E) (H1 : Heap) (locs1 : List Loc), zP D K1 ad1 g1 A H1 → va_S A s.heap H1 locs1 → post r (K1, ad1, g1) → W p l e R s m args below meth c H1 locs1 (cells + mc) (slots + ms) Q (F0 m (pc + 3) ls (.int r :: rest))) : W p l e R s m args below meth c H locs cells slots Q (F0 m pc ls st0) := by
  have hA' := zA_in C0.2.2.2.2.2.2.1 hP hS
  refine va_calli hr hS (fun q _ h => hA' q h) hA' (fun r u t H1 locs1 ht hvm hp ho _ _ hS1 => ?_)
  obtain ⟨h1, -, h2⟩ := ho
  rw [ht] at h1
  exact kk r u.1 u.2.1 u.2.2 H1 locs1 ⟨h1, h2.weaken (fun k q _ h => hA' q.1 h)⟩ hS1 hp
theorem z_lastq (C0 : zC p s m args c meth cc nL own D cy A) (hP : zP D K ad g A H) (hS : va_S A s.heap H locs) {n len j q : Nat} {fn : Nat → Int64} {i : Int32} {x : Int64} (hq : ad n = q) (hn : n < K) (he : g n = .inl (cy 5, len, .inr (.inl fn))) (hi : zIx i len j) (hdg : decode cc pc = .ok (.lastore, 1))
    (kk : ∀ (H1 : Heap) (locs1 : List Loc), zP D K ad (va_up g n (.inl (cy 5, len, .inr (.inl (vp_updL fn j x))))) A H1 → va_S A s.heap H1 locs1 → W p l e R s m args below meth c H1 locs1 cells slots Q (F0 m (pc + 1) ls rest)) : W p l e R s m args below meth c H locs cells slots Q (F0 m pc ls (.long x :: .int i :: .ref q :: rest)) := by
  subst hq
  exact z_last C0 hP hS hn he hi hdg kk
end ZKN
section ZKM
variable {l : Launch} {D : va_G} {cy : Nat → ClassId} {K : Nat} {ad : Nat → Nat} {g : Nat → va_E}
theorem z_metWN {y : MethodName} {bytes : ByteArray} {maxL : Nat} {ret : Option FieldType} {hh : List (Nat × Nat × Nat × Nat)} {rm : Room} {av : List Value} {sz mc ms : Nat} {Qc : Array Value → State → Outcome → State → Prop} {free : Addr → Prop} (hy : plainName y.cls = true) (hlen : (lg_sl av).length ≤ maxL)
    (body : ∀ (p : Program) (e : Env) (s : State) (m : MethodId) (below : List Frame) (meth : Method) (c : Code) (ls : Array Slot), sz = s.heap.size → lv_has ls maxL (lv_args 0 av) → zC p s m av.toArray c meth bytes maxL y.cls D cy (zA K ad s.heap.size) → zN s → meth.sig.returnType = ret → zP D K ad g (zA K ad s.heap.size) s.heap → va_S (zA K ad s.heap.size) s.heap s.heap [] →
      W p l e rm s m av.toArray below meth c s.heap [] 0 0 (MQ below Qc av.toArray s mc ms free) (F0 m 0 ls [])) : Met l y (zsH y bytes maxL ret hh) rm (va_Pc av (zInN D cy K ad g sz)) Qc mc ms free := by
  refine va_MetW (cc := bytes) (maxL := maxL) (ret := ret) (hh := hh) hy rfl ?_
  intro p e s m args below meth c s₁ B hml hv
  obtain ⟨rfl, ⟨hsz, hP, hK, hD0⟩, hN⟩ := hv
  have hts := atoms_spec (ws := zsH y bytes maxL ret hh) B.pre
  have hown : s.vm.findClass y.cls = some m.cls := findClass_of_methodNamed B.named
  have hl := lv_entry av (n := maxL) hlen
  rw [lg_entry_eq]
  subst hsz
  have hD : va_D (zA K ad s.heap.size) (zw K ad g) := zw_D hD0 (fun n hn _ => Or.inl ⟨n, hn, rfl⟩)
  exact body p e s m below meth c _ rfl hl ⟨B.exec, B.bytes, hml, hown, fun w h => hts w (List.mem_cons_of_mem _ h), hK, fun q h => Or.inr h, B.notSynchronized⟩ hN B.returns ⟨hP, hD⟩ va_S.rf
end ZKM
def rmN : Room := { frames := 20, cells := 30, slots := 252, locals := 440 }
def rmK : Room := { frames := 4, cells := 30, slots := 252, locals := 120 }
set_option maxHeartbeats 1000000 in
theorem wok_keepN (l : Launch) {D : va_G} {cy : Nat → ClassId} {K : Nat} {ad : Nat → Nat} {g : Nat → va_E} (sz : Nat) {p0 : Int32} {v : Int32} {w : Int64} {C C2 : zCR} (hT : cT cy K ad g C) (hO : oV cy K g w)
    (hM : ∀ sz, Met l yX4_keep (zs yX4_keep cX4_keep 3 (some .int)) rmK (va_Pc [.ref (ad 0), .int p0] (zInN D cy K ad g sz)) (va_Qi (fun r (u : zU) => r = v ∧ u.1 = K + 30 ∧ (∀ x, x < K → u.2.1 x = ad x) ∧ (∀ x, x < K → ¬ zCl x → u.2.2 x = g x) ∧ cT cy (K + 30) u.2.1 u.2.2 C2) (zOutN D cy K ad sz) (zA K ad sz)) 30 252 (zA K ad sz)) :
    Met l yL_keep (zsH yL_keep cL_keep 4 (some .int) [(0, 9, 12, 15)]) rmN (va_Pc [.ref (ad 0), .int p0, .ref (ad 230)] (zInN D cy K ad g sz)) (va_Qi (fun r (u : zU) => r = 0 ∧ u.1 = K + 30 ∧ (∀ x, x < K → u.2.1 x = ad x) ∧ (∀ x, x < K → ¬ zClO x → u.2.2 x = g x) ∧ cT cy (K + 30) u.2.1 u.2.2 C2 ∧ oV cy (K + 30) u.2.2 v.toInt64) (zOutN D cy K ad sz) (zA K ad sz)) 30 252 (zA K ad sz) := by
  refine z_metWN (by decide) (Nat.le_of_ble_eq_true rfl) (fun p e s m below meth c ls hsz hl C0 hN hr hP hS => ?_)
  subst hsz
  have hl : lv_has ls 4 [(0, .ref (ad 0)), (1, .int p0), (2, .ref (ad 230))] := hl
  have hx := C0.1; have hb := C0.2.1
  obtain ⟨hO1, f, hO2, hO3⟩ := hO
  obtain ⟨fs, hfs⟩ := hT.rc
  refine lv_aload_n hx hb dL_keep_0 rfl (lv_at hl 2 rfl) ?_
  refine lv_iconst (v := 0) hx hb dL_keep_1 (by decide) ?_
  refine lv_aload_n hx hb dL_keep_2 rfl (lv_at hl 0 rfl) ?_
  refine lv_iload_n hx hb dL_keep_3 rfl (lv_at hl 1 rfl) ?_
  refine z_calliN C0 hP hS (z_runVN (As := [.int p0]) (rest := [.int 0, .ref (ad 230)]) C0 hN hP hl.1 (hM _) lk_L_45 hT.n0 hfs rfl rfl (Nat.le_of_ble_eq_true rfl) rfl rfl ⟨Nat.le_of_ble_eq_true rfl, Nat.le_of_ble_eq_true rfl⟩ ⟨Nat.le_of_ble_eq_true rfl, Nat.le_of_ble_eq_true rfl⟩ dL_keep_4) (fun r K1 ad1 g1 H locs hP hS hp => ?_)
  obtain ⟨hr1, hK1, hA1, hG1, hT2⟩ := hp
  dsimp only at hK1 hA1 hG1 hT2
  subst hr1
  subst hK1
  have hO3 := (hG1 230 hO1 (by unfold zCl; omega)).trans hO2
  refine lv_i2l (v := r.toInt64) hx hb dL_keep_7 rfl ?_
  refine z_lastq C0 hP hS (hA1 230 hO1) (by omega) hO3 (zIx_of nI_0.symm (by decide) (by decide)) dL_keep_8 (fun H locs hP hS => ?_)
  refine lv_goto (tgt := 15) hx hb dL_keep_9 (by decide) ?_
  refine lv_iconst (v := 0) hx hb dL_keep_15 (by decide) ?_
  exact z_iretN C0 hP hS hr ⟨rfl, rfl, hA1, fun x hx hc => (va_up_ne _ _ (fun q => hc (Or.inr q))).trans (hG1 x hx (fun q => hc (Or.inl q))), hT2.kept (P := fun z => z = 230) (zFr.up zFr.rf rfl) (fun z h q => by subst q; unfold zCl at h; omega), by omega, vp_updL f 0 r.toInt64, (show va_up g1 230 (.inl (cy 5, 1, .inr (.inl (vp_updL f 0 r.toInt64)))) 230 = .inl (cy 5, 1, .inr (.inl (vp_updL f 0 r.toInt64))) from va_up_self _ _ _), if_pos rfl⟩ dL_keep_16
set_option maxHeartbeats 1000000 in
theorem op_keepN (l : Launch) {C : zCR} {M : zMR} (hA : AGr C M) {jz : Nat} (hj : jz < 2) (hns : C.2.2.2.2.1 jz = none) {K : Nat} (hK : 231 ≤ K) : ∃ (v : Int32) (C2 : zCR) (M2 : zMR), AGr C2 M2 ∧ (∀ {D : va_G} {cy : Nat → ClassId} {ad : Nat → Nat} {g : Nat → va_E} (sz : Nat) {w : Int64}, cT cy K ad g C → oV cy K g w → Met l yL_keep (zsH yL_keep cL_keep 4 (some .int) [(0, 9, 12, 15)]) rmN (va_Pc [.ref (ad 0), .int (nI jz), .ref (ad 230)] (zInN D cy K ad g sz)) (va_Qi (fun r (u : zU) => r = 0 ∧ u.1 = K + 30 ∧ (∀ x, x < K → u.2.1 x = ad x) ∧ (∀ x, x < K → ¬ zClO x → u.2.2 x = g x) ∧ cT cy (K + 30) u.2.1 u.2.2 C2 ∧ oV cy (K + 30) u.2.2 v.toInt64) (zOutN D cy K ad sz) (zA K ad sz)) 30 252 (zA K ad sz)) ∧ ∀ {D : va_G} {cy : Nat → ClassId} {K : Nat} {ad : Nat → Nat} {g : Nat → va_E} (sz : Nat) {th : Int32}, mT cy K ad g C.2.2.2.1 C.2.2.2.2.2.2.2 M th → Met l yX5_keep (zs yX5_keep cX5_keep 3 (some .int)) ({ frames := 4, cells := 0, slots := 0, locals := 88 } : Room) (va_Pc [.ref (ad 221), .int (nI jz)] (zIn D cy K ad g sz)) (va_Qi (fun r g1 => r = v ∧ mT cy K ad g1 C2.2.2.2.1 C2.2.2.2.2.2.2.2 M2 0 ∧ zFr (zRg 221 230) g g1) (zOut D cy K ad sz) (zA K ad sz)) 0 0 (zA K ad sz) := by
  obtain ⟨st, sv, nx, sz2, ns, ss, bu, ln⟩ := C
  obtain ⟨sx, so, ik, mv, tx⟩ := M
  obtain ⟨hst, hE, hnx, hsz, hsv, hsl, hln, hbt, hbu⟩ := hA
  dsimp only at hst hE hnx hsz hsv hsl hln hbt hbu hns
  refine ⟨sumN (allK st) 7 + sumN (allL st) 7, (st, sv, nx, sz2, va_up ns jz (some K), va_up ss jz st, bu, ln), (sx, wrF so jz sx 223, upd ik jz 1, mv, tx), ⟨hst, hE, hnx, hsz, hsv, hsl.put hj hE hst (va_up_self _ _ _) (fun j q => va_up_ne _ _ q), hln, hbt, hbu⟩, fun {D cy ad g} sz {w} hT hO => ?_, fun {D cy K ad g} sz {th} hM => ?_⟩
  · have hTT : isT cy K ad g st sv nx sz2 ns ss bu ln := hT
    exact wok_keepN l sz hT hO (fun sz => m_X4_keepN l sz hTT hK hj hns)
  · obtain ⟨az, kn, lo, dg, hM⟩ := hM
    replace hM : isM cy K ad g 221 sx az so ik mv tx kn lo th (nI sz2) (nI ln) dg := hM
    exact z_postI (m_X5_keep l sz hM hj) (fun r g1 h => ⟨h.1.trans ((sumN_congr (fun k hk => (hE.ti hk).symm)).trans (ties_all _).symm), ⟨az, kn, lo, dg, h.2.1⟩, h.2.2⟩)
