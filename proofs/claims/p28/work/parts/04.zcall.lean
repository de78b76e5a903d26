/-! ===== calls, entries, ends ===== -/
theorem zIn_blind {D : va_G} {cy : Nat → ClassId} {K : Nat} {ad : Nat → Nat} {g : Nat → va_E} {sz : Nat} {av : List Value} : FrameBlind (va_Pc av (zIn D cy K ad g sz)) := fun a U g' mk q => by
  obtain ⟨q0, q1, qP, qK, qD⟩ := q
  exact ⟨q0, q1, qP, va_K.moved (u := U) (U := U.calling g' mk a) (Vm.Alike.refl U.vm) qK, qD⟩
section ZQ
variable {p : Program} {l : Launch} {e : Env} {R : Room} {s : State} {m : MethodId} {args : Array Value} {below : List Frame} {meth : Method} {c : Code} {H : Heap} {locs : List Loc} {cells slots : Nat} {Q : State → Prop}
variable {D : va_G} {cy : Nat → ClassId} {K : Nat} {ad : Nat → Nat} {g : Nat → va_E} {A : Nat → Prop} {cc : ByteArray} {own : String} {nL pc : Nat} {ls : Array Slot} {rest : List Value}
theorem zIn_at (C0 : zC p s m args c meth cc nL own D cy A) (hP : zP D K ad g A H) {av : List Value} : ∀ U : State, U.heap = H → s.WarmedH U.vm → va_Pc av (zIn D cy K ad g H.size) av.toArray U := by
  obtain ⟨hx, hb, hml, hown, hts, hK, hA, hlk⟩ := C0
  intro U hU hW
  exact ⟨rfl, by rw [hU], by rw [hU]; exact hP.1, va_K.moved hW.alike hK, zw_D hP.2 (fun _ _ _ => trivial)⟩
theorem zA_in (hA : ∀ q, s.heap.size ≤ q → A q) (hP : zP D K ad g A H) (hS : va_S A s.heap H locs) : ∀ q, zA K ad H.size q → A q := by
  intro q h
  rcases h with ⟨n, hn, rfl⟩ | h
  · exact hP.A hn
  · exact hA q (Nat.le_trans hS.1 h)
theorem zP_out (hA : ∀ q, zA K ad H.size q → A q) {t : State} {H1 : Heap} {g' : Nat → va_E} (ht : t.heap = H1) (h : zOut D cy K ad H.size g' t) : zP D K ad g' A H1 := by
  obtain ⟨h1, -, h2⟩ := h
  rw [ht] at h1
  exact ⟨h1, zw_D h2 (fun n _ q => hA _ q)⟩
/-- run a virtual call -/
theorem z_runV (C0 : zC p s m args c meth cc nL own D cy A) (hP : zP D K ad g A H) (hsz : ls.size = nL) {st0 As : List Value} {y : MethodName} {bytes : ByteArray} {maxL index ci b k mc ms : Nat} {ret : Option FieldType} {fs : List Value} {rm : Room} {Qc : Array Value → State → Outcome → State → Prop} {free : Addr → Prop}
    (hM : Met l y (zs y bytes maxL ret) rm (va_Pc (.ref (ad b) :: As) (zIn D cy K ad g H.size)) Qc mc ms free) (hL : zLv own index ci y bytes maxL ret k) (hn : b < K) (he : g b = .inr (ci, fs)) (hlen : As.length = k) (hst : st0 = As.reverse ++ .ref (ad b) :: rest) (hrest : (rest.map fun v => v.category).sum ≤ 8) (hrc : rm.cells = mc) (hrs : rm.slots = ms) (hR : rm.frames + 1 ≤ R.frames ∧ 8 + (maxL + 11) + rm.locals ≤ R.locals) (hf : cells + mc ≤ R.cells ∧ slots + ms ≤ R.slots) (hdg : decode cc pc = .ok (.invokevirtual index, 3)) :
    va_Run p l e R s m args below meth c H locs cells slots mc ms (F0 m pc ls st0) rest (Qc (Value.ref (ad b) :: As).toArray) free := by
  obtain ⟨Cn, T, N, hc, hG, hd⟩ := hL
  have C1 := C0
  obtain ⟨hx, hb, hml, hown, hts, hK, hA, hlk⟩ := C0
  have hq := zw_get (K := K) (ad := ad) (g := g) hn
  rw [he] at hq
  exact va_runV (As := As) (rest := rest) (b := ad b) ⟨hx, hb, hml, hown, hts⟩ hM (cwV k hts hG rfl hrc hrs hd hR) ⟨zIn_blind, va_recv hK hP.1 (ci := ci) (q0 := b) hc hq, zIn_at C1 hP⟩ rfl hlen hsz hst (lv_room hrest) hdg hf
/-- run a static call -/
theorem z_runS (C0 : zC p s m args c meth cc nL own D cy A) (hP : zP D K ad g A H) (hsz : ls.size = nL) {st0 As : List Value} {y : MethodName} {bytes : ByteArray} {maxL index k mc ms : Nat} {ret : Option FieldType} {rm : Room} {Qc : Array Value → State → Outcome → State → Prop} {free : Addr → Prop}
    (hM : Met l y (zs y bytes maxL ret) rm (va_Pc As (zIn D cy K ad g H.size)) Qc mc ms free) (hL : zLs own index y bytes maxL ret k) (hlen : As.length = k) (hst : st0 = As.reverse ++ rest) (hrest : (rest.map fun v => v.category).sum ≤ 8) (hrc : rm.cells = mc) (hrs : rm.slots = ms) (hR : rm.frames + 1 ≤ R.frames ∧ 8 + (maxL + 11) + rm.locals ≤ R.locals) (hf : cells + mc ≤ R.cells ∧ slots + ms ≤ R.slots) (hdg : decode cc pc = .ok (.invokestatic index, 3)) :
    va_Run p l e R s m args below meth c H locs cells slots mc ms (F0 m pc ls st0) rest (Qc As.toArray) free := by
  have C1 := C0
  obtain ⟨hx, hb, hml, hown, hts, hK, hA, hlk⟩ := C0
  exact va_runS (As := As) (rest := rest) ⟨hx, hb, hml, hown, hts⟩ hM (va_cwS k hts hL.1 rfl hrc hrs hL.2 hR) ⟨zIn_blind, zIn_at C1 hP⟩ rfl hlen hsz hst (lv_room hrest) hdg hf
theorem z_calli (C0 : zC p s m args c meth cc nL own D cy A) (hP : zP D K ad g A H) (hS : va_S A s.heap H locs) {st0 : List Value} {mc ms : Nat} {av : Array Value} {post : Int32 → (Nat → va_E) → Prop}
    (hr : va_Run p l e R s m args below meth c H locs cells slots mc ms (F0 m pc ls st0) rest (va_Qi post (zOut D cy K ad H.size) (zA K ad H.size) av) (zA K ad H.size))
    (kk : ∀ (r : Int32) (g' : Nat → va_E) (H1 : Heap) (locs1 : List Loc), zP D K ad g' A H1 → va_S A s.heap H1 locs1 → post r g' → W p l e R s m args below meth c H1 locs1 (cells + mc) (slots + ms) Q (F0 m (pc + 3) ls (.int r :: rest))) : W p l e R s m args below meth c H locs cells slots Q (F0 m pc ls st0) := by
  have hA' := zA_in C0.2.2.2.2.2.2.1 hP hS
  exact va_calli hr hS (fun q _ h => hA' q h) hA' (fun r u t H1 locs1 ht hvm hp ho _ _ hS1 => kk r u H1 locs1 (zP_out hA' ht ho) hS1 hp)
theorem z_calll (C0 : zC p s m args c meth cc nL own D cy A) (hP : zP D K ad g A H) (hS : va_S A s.heap H locs) {st0 : List Value} {mc ms : Nat} {av : Array Value} {post : Int64 → (Nat → va_E) → Prop}
    (hr : va_Run p l e R s m args below meth c H locs cells slots mc ms (F0 m pc ls st0) rest (va_Ql post (zOut D cy K ad H.size) (zA K ad H.size) av) (zA K ad H.size))
    (kk : ∀ (r : Int64) (g' : Nat → va_E) (H1 : Heap) (locs1 : List Loc), zP D K ad g' A H1 → va_S A s.heap H1 locs1 → post r g' → W p l e R s m args below meth c H1 locs1 (cells + mc) (slots + ms) Q (F0 m (pc + 3) ls (.long r :: rest))) : W p l e R s m args below meth c H locs cells slots Q (F0 m pc ls st0) := by
  have hA' := zA_in C0.2.2.2.2.2.2.1 hP hS
  exact va_calll hr hS (fun q _ h => hA' q h) hA' (fun r u t H1 locs1 ht hvm hp ho _ _ hS1 => kk r u H1 locs1 (zP_out hA' ht ho) hS1 hp)
theorem z_calld (C0 : zC p s m args c meth cc nL own D cy A) (hP : zP D K ad g A H) (hS : va_S A s.heap H locs) {st0 : List Value} {mc ms : Nat} {av : Array Value} {post : UInt64 → (Nat → va_E) → Prop}
    (hr : va_Run p l e R s m args below meth c H locs cells slots mc ms (F0 m pc ls st0) rest (va_Qd post (zOut D cy K ad H.size) (zA K ad H.size) av) (zA K ad H.size))
    (kk : ∀ (r : UInt64) (g' : Nat → va_E) (H1 : Heap) (locs1 : List Loc), zP D K ad g' A H1 → va_S A s.heap H1 locs1 → post r g' → W p l e R s m args below meth c H1 locs1 (cells + mc) (slots + ms) Q (F0 m (pc + 3) ls (.double r :: rest))) : W p l e R s m args below meth c H locs cells slots Q (F0 m pc ls st0) := by
  have hA' := zA_in C0.2.2.2.2.2.2.1 hP hS
  exact va_calld hr hS (fun q _ h => hA' q h) hA' (fun r u t H1 locs1 ht hvm hp ho _ _ hS1 => kk r u H1 locs1 (zP_out hA' ht ho) hS1 hp)
theorem z_callv (C0 : zC p s m args c meth cc nL own D cy A) (hP : zP D K ad g A H) (hS : va_S A s.heap H locs) {st0 : List Value} {mc ms : Nat} {av : Array Value} {post : (Nat → va_E) → Prop}
    (hr : va_Run p l e R s m args below meth c H locs cells slots mc ms (F0 m pc ls st0) rest (va_Qv post (zOut D cy K ad H.size) (zA K ad H.size) av) (zA K ad H.size))
    (kk : ∀ (g' : Nat → va_E) (H1 : Heap) (locs1 : List Loc), zP D K ad g' A H1 → va_S A s.heap H1 locs1 → post g' → W p l e R s m args below meth c H1 locs1 (cells + mc) (slots + ms) Q (F0 m (pc + 3) ls rest)) : W p l e R s m args below meth c H locs cells slots Q (F0 m pc ls st0) := by
  have hA' := zA_in C0.2.2.2.2.2.2.1 hP hS
  exact va_callv hr hS (fun q _ h => hA' q h) hA' (fun u t H1 locs1 ht hvm hp ho _ _ hS1 => kk u H1 locs1 (zP_out hA' ht ho) hS1 hp)
end ZQ
section ZE
variable {l : Launch} {D : va_G} {cy : Nat → ClassId} {K : Nat} {ad : Nat → Nat} {g : Nat → va_E}
/-- a method's contract, by the walk of its body -/
theorem z_met {y : MethodName} {bytes : ByteArray} {maxL : Nat} {ret : Option FieldType} {rm : Room} {av : List Value} {sz mc ms : Nat} {Qc : Array Value → State → Outcome → State → Prop} {free : Addr → Prop} (hy : plainName y.cls = true) (hlen : (lg_sl av).length ≤ maxL)
    (body : ∀ (p : Program) (e : Env) (s : State) (m : MethodId) (below : List Frame) (meth : Method) (c : Code) (ls : Array Slot), sz = s.heap.size → lv_has ls maxL (lv_args 0 av) → zC p s m av.toArray c meth bytes maxL y.cls D cy (zA K ad s.heap.size) → meth.sig.returnType = ret → meth.name = y.name → zP D K ad g (zA K ad s.heap.size) s.heap → va_S (zA K ad s.heap.size) s.heap s.heap [] →
      W p l e rm s m av.toArray below meth c s.heap [] 0 0 (MQ below Qc av.toArray s mc ms free) (F0 m 0 ls [])) : Met l y (zs y bytes maxL ret) rm (va_Pc av (zIn D cy K ad g sz)) Qc mc ms free := by
  refine Met.ofW (cc := bytes) (maxL := maxL) (ret := ret) hy rfl ?_
  intro p e s m args below meth c s₁ B hml hv
  obtain ⟨rfl, hsz, hP, hK, hD0⟩ := hv
  have hts := atoms_spec (ws := zs y bytes maxL ret) B.pre
  have hown : s.vm.findClass y.cls = some m.cls := findClass_of_methodNamed B.named
  have hl := lv_entry av (n := maxL) hlen
  rw [lg_entry_eq]
  have hD : va_D (zA K ad s.heap.size) (zw K ad g) := zw_D hD0 (fun n hn _ => Or.inl ⟨n, hn, rfl⟩)
  exact body p e s m below meth c _ hsz.symm hl ⟨B.exec, B.bytes, hml, hown, fun w h => hts w (List.mem_cons_of_mem _ h), hK, fun q h => Or.inr h, B.notSynchronized⟩ B.returns (name_of_methodNamed B.named B.method).1 ⟨hP, hD⟩ va_S.rf
end ZE
section ZN
variable {p : Program} {l : Launch} {e : Env} {R : Room} {s : State} {m : MethodId} {args : Array Value} {below : List Frame} {meth : Method} {c : Code} {H : Heap} {locs : List Loc} {cells slots : Nat} {Q : State → Prop}
variable {D : va_G} {cy : Nat → ClassId} {K : Nat} {ad : Nat → Nat} {g : Nat → va_E} {A : Nat → Prop} {cc : ByteArray} {own : String} {nL pc : Nat} {ls : Array Slot} {rest : List Value}
theorem zOut_at (C0 : zC p s m args c meth cc nL own D cy (zA K ad s.heap.size)) (hP : zP D K ad g (zA K ad s.heap.size) H) (t : State) (ht : t.heap = H) (hW : s.WarmedH t.vm) : zOut D cy K ad s.heap.size g t :=
  ⟨by rw [ht]; exact hP.1, va_K.moved hW.alike C0.2.2.2.2.2.1, hP.2⟩
theorem z_iret (C0 : zC p s m args c meth cc nL own D cy (zA K ad s.heap.size)) (hP : zP D K ad g (zA K ad s.heap.size) H) (hS : va_S (zA K ad s.heap.size) s.heap H locs) {v : Int32} {post : Int32 → (Nat → va_E) → Prop} (hr : meth.sig.returnType = some .int) (hp : post v g) (hdg : decode cc pc = .ok (.ireturn, 1)) :
    W p l e R s m args below meth c H locs cells slots (MQ below (va_Qi post (zOut D cy K ad s.heap.size) (zA K ad s.heap.size)) args s cells slots (zA K ad s.heap.size)) (F0 m pc ls [.int v]) :=
  W.iret (v := v) C0.1 C0.2.1 hr (fun t ht hW => ⟨⟨v, g, rfl, hp, zOut_at C0 hP t ht hW⟩, hS.F ht⟩) hS.2.2 hdg C0.2.2.2.2.2.2.2
theorem z_zret (C0 : zC p s m args c meth cc nL own D cy (zA K ad s.heap.size)) (hP : zP D K ad g (zA K ad s.heap.size) H) (hS : va_S (zA K ad s.heap.size) s.heap H locs) {v : Int32} {post : Int32 → (Nat → va_E) → Prop} (hr : meth.sig.returnType = some .boolean) (hn : narrow .boolean (.int v) = .int v) (hp : post v g) (hdg : decode cc pc = .ok (.ireturn, 1)) :
    W p l e R s m args below meth c H locs cells slots (MQ below (va_Qi post (zOut D cy K ad s.heap.size) (zA K ad s.heap.size)) args s cells slots (zA K ad s.heap.size)) (F0 m pc ls [.int v]) :=
  W.zret (v := v) C0.1 C0.2.1 hr hn (fun t ht hW => ⟨⟨v, g, rfl, hp, zOut_at C0 hP t ht hW⟩, hS.F ht⟩) hS.2.2 hdg C0.2.2.2.2.2.2.2
theorem z_lret (C0 : zC p s m args c meth cc nL own D cy (zA K ad s.heap.size)) (hP : zP D K ad g (zA K ad s.heap.size) H) (hS : va_S (zA K ad s.heap.size) s.heap H locs) {v : Int64} {post : Int64 → (Nat → va_E) → Prop} (hr : meth.sig.returnType = some .long) (hp : post v g) (hdg : decode cc pc = .ok (.lreturn, 1)) :
    W p l e R s m args below meth c H locs cells slots (MQ below (va_Ql post (zOut D cy K ad s.heap.size) (zA K ad s.heap.size)) args s cells slots (zA K ad s.heap.size)) (F0 m pc ls [.long v]) :=
  W.lret (v := v) C0.1 C0.2.1 hr (fun t ht hW => ⟨⟨v, g, rfl, hp, zOut_at C0 hP t ht hW⟩, hS.F ht⟩) hS.2.2 hdg C0.2.2.2.2.2.2.2
theorem z_dret (C0 : zC p s m args c meth cc nL own D cy (zA K ad s.heap.size)) (hP : zP D K ad g (zA K ad s.heap.size) H) (hS : va_S (zA K ad s.heap.size) s.heap H locs) {v : UInt64} {post : UInt64 → (Nat → va_E) → Prop} (hr : meth.sig.returnType = some .double) (hp : post v g) (hdg : decode cc pc = .ok (.dreturn, 1)) :
    W p l e R s m args below meth c H locs cells slots (MQ below (va_Qd post (zOut D cy K ad s.heap.size) (zA K ad s.heap.size)) args s cells slots (zA K ad s.heap.size)) (F0 m pc ls [.double v]) :=
  W.dret (v := v) C0.1 C0.2.1 hr (fun t ht hW => ⟨⟨v, g, rfl, hp, zOut_at C0 hP t ht hW⟩, hS.F ht⟩) hS.2.2 hdg C0.2.2.2.2.2.2.2
theorem z_vret (C0 : zC p s m args c meth cc nL own D cy (zA K ad s.heap.size)) (hP : zP D K ad g (zA K ad s.heap.size) H) (hS : va_S (zA K ad s.heap.size) s.heap H locs) {post : (Nat → va_E) → Prop} (hr : meth.sig.returnType = none) (hp : post g) (hdg : decode cc pc = .ok (.return_, 1)) :
    W p l e R s m args below meth c H locs cells slots (MQ below (va_Qv post (zOut D cy K ad s.heap.size) (zA K ad s.heap.size)) args s cells slots (zA K ad s.heap.size)) (F0 m pc ls []) :=
  W.vret C0.1 C0.2.1 hr (fun t ht hW => ⟨⟨g, rfl, hp, zOut_at C0 hP t ht hW⟩, hS.F ht⟩) hS.2.2 hdg C0.2.2.2.2.2.2.2
end ZN
