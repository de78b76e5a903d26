/-! ===== exceptions that leave a method: what a throw needs; a contract 'throws E'; calls of such; the launch has no stack traces ===== -/
def zIOB : String := "java/lang/IndexOutOfBoundsException"
def zIAE : String := "java/lang/IllegalArgumentException"
def zISE : String := "java/lang/IllegalStateException"
def zNm : List String := ["java/lang/RuntimeException", "java/lang/Exception"]
def zStr : List (Nat × String) := [(145, "no saved state"), (140, "no snapshot in the slot"), (297, "no such slot"), (119, "the buffer does not tell orders"), (108, "the buffer is full"), (104, "no such character"), (99, "no such room"), (71, "a cord is not added to itself"), (230, "no such way to tell"), (228, "no such sum"), (295, "no such hue"), (293, "no such number"), (191, "ranks begin with 0"), (189, "a place has no such number"), (290, "no such place"), (168, "a cord has no such number"), (283, "no such cord"), (213, "there is no such number")]
def zDec : List MethodName := [⟨"java/lang/Throwable", "<init>", "(Ljava/lang/String;)V"⟩, ⟨"java/lang/Exception", "<init>", "(Ljava/lang/String;)V"⟩, ⟨"java/lang/RuntimeException", "<init>", "(Ljava/lang/String;)V"⟩]
def zEs : List String := [zIOB, zIAE, zISE]
def zTh (A : Nat → Prop) (U : State) (H : Heap) : Prop := vx_Zq Bundle.tN "UNASSIGNED_STACK" Bundle.steD A U H ∧ vx_Zq Bundle.tN "SUPPRESSED_SENTINEL" Bundle.listD A U H ∧ (∀ E ∈ zEs, va_Nw (.castable E E) U) ∧ (∀ y ∈ zDec, va_Nw (.declares y) U) ∧ ∀ q ∈ zStr, ∃ sa, vk_R RX4 q.1 q.2 sa U
def zInX (D : va_G) (cy : Nat → ClassId) (K : Nat) (ad : Nat → Nat) (g : Nat → va_E) (sz : Nat) (U : State) : Prop := zIn D cy K ad g sz U ∧ zTh (zA K ad sz) U U.heap
def zXC (D : va_G) (cy : Nat → ClassId) (K : Nat) (ad : Nat → Nat) (g : Nat → va_E) (sz : Nat) (E : String) : String → State → State → Prop := vx_X (fun _ : Unit => True) (fun E' _ t => E' = E ∧ zOut D cy K ad sz g t) (zA K ad sz)
/-- a method that, in this state and with these arguments, throws E and changes nothing -/
def zXM (l : Launch) (y : MethodName) (bytes : ByteArray) (maxL : Nat) (ret : Option FieldType) (rm : Room) (av : List Value) (D : va_G) (cy : Nat → ClassId) (K : Nat) (ad : Nat → Nat) (g : Nat → va_E) (sz : Nat) (E : String) : Prop := vx_Met l y (zs y bytes maxL ret) rm (va_Pc av (zInX D cy K ad g sz)) (fun _ _ _ _ => False) (zXC D cy K ad g sz E) 1 6 (zA K ad sz)
theorem zInX_blind {D : va_G} {cy : Nat → ClassId} {K : Nat} {ad : Nat → Nat} {g : Nat → va_E} {sz : Nat} {av : List Value} : FrameBlind (va_Pc av (zInX D cy K ad g sz)) := fun a U g' mk q => by
  obtain ⟨q0, q1, h1, h2, h3, h4, h5⟩ := q
  refine ⟨q0, (zIn_blind a U g' mk ⟨q0, q1⟩).2, vx_Zq.moved (u := U) (U := U.calling g' mk a) (Vm.Alike.refl U.vm) h1, vx_Zq.moved (u := U) (U := U.calling g' mk a) (Vm.Alike.refl U.vm) h2, fun E hE => va_Nw.same rfl (u := U) (U := U.calling g' mk a) rfl (h3 E hE), fun y hy => va_Nw.same rfl (u := U) (U := U.calling g' mk a) rfl (h4 y hy), fun q hq => ?_⟩
  obtain ⟨sa, hsa⟩ := h5 q hq
  exact ⟨sa, vk_R.same (u := U) (U := U.calling g' mk a) rfl hsa⟩
section ZXQ
variable {p : Program} {l : Launch} {e : Env} {R : Room} {s : State} {m : MethodId} {args : Array Value} {below : List Frame} {meth : Method} {c : Code} {H : Heap} {locs : List Loc} {cells slots : Nat} {Q : State → Prop}
variable {D : va_G} {cy : Nat → ClassId} {K : Nat} {ad : Nat → Nat} {g : Nat → va_E} {A : Nat → Prop} {cc : ByteArray} {own : String} {nL pc : Nat} {ls : Array Slot} {rest : List Value}
theorem zInX_at (C0 : zC p s m args c meth cc nL own D cy A) (hT : zTh A s s.heap) (hP : zP D K ad g A H) (hS : va_S A s.heap H locs) {av : List Value} : ∀ U : State, U.heap = H → s.WarmedH U.vm → va_Pc av (zInX D cy K ad g H.size) av.toArray U := by
  intro U hU hW
  have hA' := zA_in C0.2.2.2.2.2.2.1 hP hS
  obtain ⟨h1, h2, h3, h4, h5⟩ := hT
  refine ⟨rfl, (zIn_at C0 hP (av := av) U hU hW).2, ?_⟩
  rw [hU]
  refine ⟨((h1.kept hS.2.1).moved hW.alike).narrow hA', ((h2.kept hS.2.1).moved hW.alike).narrow hA', fun E hE => (h3 E hE).warmC hW, fun y hy => (h4 y hy).warmD hW, fun q hq => ?_⟩
  obtain ⟨sa, hsa⟩ := h5 q hq
  exact ⟨sa, hsa.warm hW⟩
/-- run a virtual call that throws -/
theorem z_runVX (C0 : zC p s m args c meth cc nL own D cy A) (hT : zTh A s s.heap) (hP : zP D K ad g A H) (hS : va_S A s.heap H locs) (hsz : ls.size = nL) {st0 As : List Value} {y : MethodName} {bytes : ByteArray} {maxL index ci b k : Nat} {ret : Option FieldType} {fs : List Value} {rm : Room} {E : String}
    (hM : zXM l y bytes maxL ret rm (.ref (ad b) :: As) D cy K ad g H.size E) (hL : zLv own index ci y bytes maxL ret k) (hn : b < K) (he : g b = .inr (ci, fs)) (hlen : As.length = k) (hst : st0 = As.reverse ++ .ref (ad b) :: rest) (hrest : (rest.map fun v => v.category).sum ≤ 8) (hrc : rm.cells = 1) (hrs : rm.slots = 6) (hR : rm.frames + 1 ≤ R.frames ∧ 8 + (maxL + 11) + rm.locals ≤ R.locals) (hf : cells + 1 ≤ R.cells ∧ slots + 6 ≤ R.slots) (hdg : decode cc pc = .ok (.invokevirtual index, 3)) :
    vx_Run p l e R s m args below meth c H locs cells slots 1 6 (F0 m pc ls st0) rest (fun _ _ _ => False) (zXC D cy K ad g H.size E) (zA K ad H.size) := by
  obtain ⟨Cn, T, N, hc, hG, hd⟩ := hL
  have C1 := C0
  obtain ⟨hx, hb, hml, hown, hts, hK, hA, hlk⟩ := C0
  have hq := zw_get (K := K) (ad := ad) (g := g) hn
  rw [he] at hq
  exact vx_runV (As := As) (rest := rest) (b := ad b) ⟨hx, hb, hml, hown, hts⟩ hM (cwV k hts hG rfl hrc hrs hd hR) ⟨zInX_blind, va_recv hK hP.1 (ci := ci) (q0 := b) hc hq, zInX_at C1 hT hP hS⟩ rfl hlen hsz hst (lv_room hrest) hdg hf
theorem z_runSX (C0 : zC p s m args c meth cc nL own D cy A) (hT : zTh A s s.heap) (hP : zP D K ad g A H) (hS : va_S A s.heap H locs) (hsz : ls.size = nL) {st0 As : List Value} {y : MethodName} {bytes : ByteArray} {maxL index k : Nat} {ret : Option FieldType} {rm : Room} {E : String}
    (hM : zXM l y bytes maxL ret rm As D cy K ad g H.size E) (hL : zLs own index y bytes maxL ret k) (hlen : As.length = k) (hst : st0 = As.reverse ++ rest) (hrest : (rest.map fun v => v.category).sum ≤ 8) (hrc : rm.cells = 1) (hrs : rm.slots = 6) (hR : rm.frames + 1 ≤ R.frames ∧ 8 + (maxL + 11) + rm.locals ≤ R.locals) (hf : cells + 1 ≤ R.cells ∧ slots + 6 ≤ R.slots) (hdg : decode cc pc = .ok (.invokestatic index, 3)) :
    vx_Run p l e R s m args below meth c H locs cells slots 1 6 (F0 m pc ls st0) rest (fun _ _ _ => False) (zXC D cy K ad g H.size E) (zA K ad H.size) := by
  have C1 := C0
  obtain ⟨hx, hb, hml, hown, hts, hK, hA, hlk⟩ := C0
  exact vx_runS (As := As) (rest := rest) ⟨hx, hb, hml, hown, hts⟩ hM (va_cwS k hts hL.1 rfl hrc hrs hL.2 hR) ⟨zInX_blind, zInX_at C1 hT hP hS⟩ rfl hlen hsz hst (lv_room hrest) hdg hf
/-- behind such a call: the world as it was, and the thing thrown -/
theorem z_thrown (C0 : zC p s m args c meth cc nL own D cy A) (hP : zP D K ad g A H) (hS : va_S A s.heap H locs) {st0 : List Value} {E : String}
    (hr : vx_Run p l e R s m args below meth c H locs cells slots 1 6 (F0 m pc ls st0) rest (fun _ _ _ => False) (zXC D cy K ad g H.size E) (zA K ad H.size))
    (kx : ∀ (ce : Cell) (q9 : Addr) (H1 : Heap) (locs1 : List Loc), zP D K ad g A H1 → va_S A s.heap H1 locs1 → H1[q9]? = some ce → ce.vm = .none → s.vm.findClass E = some ce.cls → vx_W p l e R s m args below meth c H1 locs1 (cells + 1) (slots + 6) Q (F0 m pc ls rest) q9) : W p l e R s m args below meth c H locs cells slots Q (F0 m pc ls st0) := by
  have hA' := zA_in C0.2.2.2.2.2.2.1 hP hS
  intro T hT X
  rcases hr T hT X with ⟨v, st₀, t, T', L, h0, X', hL, e1, e2, hq, st⟩ | ⟨q, st₀, t, T', L, E', ce, h0, X', hL, e1, e2, ⟨u, -, ⟨rfl, ho⟩, hF⟩, hce, hcv, hcl, st⟩
  · exact hq.elim
  · obtain ⟨k1, k2, k3⟩ := vx_keep h0 e1 hS (fun q _ h => hA' q h) hA' hL hF
    obtain ⟨t2, a1, b1⟩ := kx ce q T'.heap (locs ++ L) (zP_out hA' e1.symm ho) k3 (by rw [e1]; exact hce) hcv hcl T' rfl X'
    exact ⟨t2, st.trans a1, b1⟩
end ZXQ
section ZXE
variable {l : Launch} {D : va_G} {cy : Nat → ClassId} {K : Nat} {ad : Nat → Nat} {g : Nat → va_E}
theorem z_metX {y : MethodName} {bytes : ByteArray} {maxL : Nat} {ret : Option FieldType} {rm : Room} {av : List Value} {sz : Nat} {E : String} (hy : plainName y.cls = true) (hlen : (lg_sl av).length ≤ maxL)
    (body : ∀ (p : Program) (e : Env) (s : State) (m : MethodId) (below : List Frame) (meth : Method) (c : Code) (ls : Array Slot), sz = s.heap.size → lv_has ls maxL (lv_args 0 av) → zC p s m av.toArray c meth bytes maxL y.cls D cy (zA K ad s.heap.size) → (∀ x ∈ c.exceptionTable.toList, False) → zTh (zA K ad s.heap.size) s s.heap → zP D K ad g (zA K ad s.heap.size) s.heap → va_S (zA K ad s.heap.size) s.heap s.heap [] →
      W p l e rm s m av.toArray below meth c s.heap [] 0 0 (vx_MQ below (fun _ _ _ _ => False) (zXC D cy K ad g s.heap.size E) av.toArray s 1 6 (zA K ad s.heap.size)) (F0 m 0 ls [])) : zXM l y bytes maxL ret rm av D cy K ad g sz E := by
  refine vx_ofW (cc := bytes) (maxL := maxL) (ret := ret) hy rfl ?_
  intro p e s m args below meth c s₁ B hml hex hv
  obtain ⟨rfl, ⟨hsz, hP, hK, hD0⟩, hT⟩ := hv
  have hts := atoms_spec (ws := zs y bytes maxL ret) B.pre
  have hown : s.vm.findClass y.cls = some m.cls := findClass_of_methodNamed B.named
  have hl := lv_entry av (n := maxL) hlen
  rw [lg_entry_eq]
  subst hsz
  have hD : va_D (zA K ad s.heap.size) (zw K ad g) := zw_D hD0 (fun n hn _ => Or.inl ⟨n, hn, rfl⟩)
  exact body p e s m below meth c _ rfl hl ⟨B.exec, B.bytes, hml, hown, fun w h => hts w (List.mem_cons_of_mem _ h), hK, fun q h => Or.inr h, B.notSynchronized⟩ hex hT ⟨hP, hD⟩ va_S.rf
end ZXE
section ZXR
variable {p : Program} {l : Launch} {e : Env} {R : Room} {s : State} {m : MethodId} {args : Array Value} {below : List Frame} {meth : Method} {c : Code} {H : Heap} {locs : List Loc} {cells slots : Nat}
variable {D : va_G} {cy : Nat → ClassId} {K : Nat} {ad : Nat → Nat} {g : Nat → va_E} {cc : ByteArray} {own : String} {nL pc : Nat} {ls : Array Slot} {rest : List Value} {Qc : Array Value → State → Outcome → State → Prop}
theorem z_outX (C0 : zC p s m args c meth cc nL own D cy (zA K ad s.heap.size)) (hex : ∀ x ∈ c.exceptionTable.toList, False) (hP : zP D K ad g (zA K ad s.heap.size) H) (hS : va_S (zA K ad s.heap.size) s.heap H locs) {E : String} {ce : Cell} {q9 : Addr} (hce : H[q9]? = some ce) (hv : ce.vm = .none) (hcl : s.vm.findClass E = some ce.cls) (hc : cells ≤ 1) (hs : slots ≤ 6) :
    vx_W p l e R s m args below meth c H locs cells slots (vx_MQ below Qc (zXC D cy K ad g s.heap.size E) args s 1 6 (zA K ad s.heap.size)) (F0 m pc ls rest) q9 :=
  vx_out (fun x hx => (hex x hx).elim) C0.2.2.2.2.2.2.2 hce hv hcl (fun t ht hal => ⟨(), trivial, ⟨rfl, by rw [ht]; exact hP.1, va_K.moved hal C0.2.2.2.2.2.1, hP.2⟩, hS.F ht⟩) hS.2.2 hc hs
def zThF (own : String) (ik ic : Nat) (E : String) : Prop := Cond.classLink own ik E ∈ zW ∧ Cond.initialized E ∈ zW ∧ (∀ w ∈ (vx_atS own ic E zNm).filter goodWord, w ∈ zW) ∧ (∀ w ∈ (vx_atS own ic E zNm).filter (fun w => !goodWord w), w ∈ (Cond.castable E E :: zDec.map Cond.declares)) ∧ (∀ w ∈ Cond.classLink own ik E :: Cond.initialized E :: vx_atS own ic E zNm, vx_ot w = true) ∧ Bundle.fit E = true ∧ E ∈ zEs
theorem zThF.hat {own : String} {ik ic : Nat} {E : String} (hF : zThF own ik ic E) {A : Nat → Prop} (hts : ∀ w ∈ zW, w.before args s = true) (hT : zTh A s H) : ∀ w ∈ vx_atS own ic E zNm, w.before args s = true := by
  obtain ⟨h1, h2, h3, h4, h5, h6, h7⟩ := hF
  refine vx_hat (fun w hw => hts w (h3 w hw)) h4 (fun w hw => ?_)
  rcases List.mem_cons.mp hw with rfl | hw
  · exact (hT.2.2.1 E h7).use rfl
  · obtain ⟨y, hy, rfl⟩ := List.mem_map.mp hw
    exact (hT.2.2.2.1 y hy).use rfl
theorem z_throwPost (C0 : zC p s m args c meth cc nL own D cy (zA K ad s.heap.size)) (hP : zP D K ad g (zA K ad s.heap.size) H) (hS : va_S (zA K ad s.heap.size) s.heap H locs) (E : String) : ∀ t : State, s.vm.Alike t.vm → H.size ≤ t.heap.size → (∀ q : Nat, q < H.size → t.heap[q]? = H[q]?) → zXC D cy K ad g s.heap.size E E s t := by
  intro t hal hz hk
  refine ⟨(), trivial, ⟨rfl, hP.1.kept (fun k q hq => hk q.1 (hP.1 k q hq).lt), va_K.moved hal C0.2.2.2.2.2.1, hP.2⟩, Nat.le_trans hS.1 hz, fun q h1 h2 => ?_⟩
  rw [hk q (Nat.lt_of_lt_of_le h1 hS.1)]
  exact hS.2.1 q h1 h2
theorem z_throw (C0 : zC p s m args c meth cc nL own D cy (zA K ad s.heap.size)) (hown : own = RX4) (hl : l.stackTraces = false) (hex : ∀ x ∈ c.exceptionTable.toList, False) (hT : zTh (zA K ad s.heap.size) s s.heap) (hP : zP D K ad g (zA K ad s.heap.size) H) (hS : va_S (zA K ad s.heap.size) s.heap H locs) (hsz : ls.size = nL) {E text : String} {ik is ic : Nat} (hF : zThF RX4 ik ic E) (hstr : (is, text) ∈ zStr)
    (d0 : decode cc pc = .ok (.new ik, 3)) (d3 : decode cc (pc + 3) = .ok (.dup, 1)) (d4 : decode cc (pc + 4) = .ok (.ldc is, 2)) (d6 : decode cc (pc + 6) = .ok (.invokespecial ic, 3)) (d9 : decode cc (pc + 9) = .ok (.athrow, 1)) (hRf : 5 < R.frames) (hrest : (rest.map fun v => v.category).sum ≤ 8) (hRl : 100 ≤ R.locals) (hRc : cells + 1 ≤ R.cells) (hRs : slots + 6 ≤ R.slots) (hc : cells + 1 ≤ 1) (hs : slots + 6 ≤ 6) :
    W p l e R s m args below meth c H locs cells slots (vx_MQ below Qc (zXC D cy K ad g s.heap.size E) args s 1 6 (zA K ad s.heap.size)) (F0 m pc ls rest) := by
  subst hown
  obtain ⟨sa, hsa⟩ := hT.2.2.2.2 _ hstr
  have hat := hF.hat C0.2.2.2.2.1 hT
  obtain ⟨h1, h2, h3, h4, h5, h6, h7⟩ := hF
  exact vx_throwS C0.1 C0.2.1 hl (names := zNm) C0.2.2.2.1 h6 (by decide +kernel) (C0.2.2.2.2.1 _ h1) (C0.2.2.2.2.1 _ h2) hsa hat h5 hT.1 hT.2.1 hS (hsz.trans C0.2.2.1.symm) d0 d3 d4 d6 d9 (fun x hx => (hex x hx).elim) hRf (by show _ + (13 * 3 + 43) ≤ _; omega) hRc hRs C0.2.2.2.2.2.2.2 (z_throwPost C0 hP hS E) hS.2.2 hc hs
theorem z_throwW (C0 : zC p s m args c meth cc nL own D cy (zA K ad s.heap.size)) (hown : own = RX4) (hl : l.stackTraces = false) (hex : ∀ x ∈ c.exceptionTable.toList, False) (hT : zTh (zA K ad s.heap.size) s s.heap) (hP : zP D K ad g (zA K ad s.heap.size) H) (hS : va_S (zA K ad s.heap.size) s.heap H locs) (hsz : ls.size = nL) {E text : String} {ik is ic : Nat} (hF : zThF RX4 ik ic E) (hstr : (is, text) ∈ zStr)
    (d0 : decode cc pc = .ok (.new ik, 3)) (d3 : decode cc (pc + 3) = .ok (.dup, 1)) (d4 : decode cc (pc + 4) = .ok (.ldc_w is, 3)) (d7 : decode cc (pc + 7) = .ok (.invokespecial ic, 3)) (d10 : decode cc (pc + 10) = .ok (.athrow, 1)) (hRf : 5 < R.frames) (hrest : (rest.map fun v => v.category).sum ≤ 8) (hRl : 100 ≤ R.locals) (hRc : cells + 1 ≤ R.cells) (hRs : slots + 6 ≤ R.slots) (hc : cells + 1 ≤ 1) (hs : slots + 6 ≤ 6) :
    W p l e R s m args below meth c H locs cells slots (vx_MQ below Qc (zXC D cy K ad g s.heap.size E) args s 1 6 (zA K ad s.heap.size)) (F0 m pc ls rest) := by
  subst hown
  obtain ⟨sa, hsa⟩ := hT.2.2.2.2 _ hstr
  have hat := hF.hat C0.2.2.2.2.1 hT
  obtain ⟨h1, h2, h3, h4, h5, h6, h7⟩ := hF
  exact vx_throwSW C0.1 C0.2.1 hl (names := zNm) C0.2.2.2.1 h6 (by decide +kernel) (C0.2.2.2.2.1 _ h1) (C0.2.2.2.2.1 _ h2) hsa hat h5 hT.1 hT.2.1 hS (hsz.trans C0.2.2.1.symm) d0 d3 d4 d7 d10 (fun x hx => (hex x hx).elim) hRf (by show _ + (13 * 3 + 43) ≤ _; omega) hRc hRs C0.2.2.2.2.2.2.2 (z_throwPost C0 hP hS E) hS.2.2 hc hs
end ZXR
theorem thf_iob : zThF RX4 281 285 zIOB := ⟨q424, q61, fun w hw => List.mem_filter.mpr ⟨(show ∀ w ∈ (vx_atS RX4 285 zIOB zNm).filter goodWord, w ∈ lw_tbl by decide +kernel) w hw, (List.mem_filter.mp hw).2⟩, by decide +kernel, by decide +kernel, by decide +kernel, by decide +kernel⟩
theorem thf_iae : zThF RX4 69 73 zIAE := ⟨q340, q62, fun w hw => List.mem_filter.mpr ⟨(show ∀ w ∈ (vx_atS RX4 73 zIAE zNm).filter goodWord, w ∈ lw_tbl by decide +kernel) w hw, (List.mem_filter.mp hw).2⟩, by decide +kernel, by decide +kernel, by decide +kernel, by decide +kernel⟩
theorem thf_ise : zThF RX4 106 110 zISE := ⟨q670, q65, fun w hw => List.mem_filter.mpr ⟨(show ∀ w ∈ (vx_atS RX4 110 zISE zNm).filter goodWord, w ∈ lw_tbl by decide +kernel) w hw, (List.mem_filter.mp hw).2⟩, by decide +kernel, by decide +kernel, by decide +kernel, by decide +kernel⟩
