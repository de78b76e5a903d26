/-! ===== the law: its calls that catch; the world of class, reference and answer ===== -/
abbrev zCR : Type := (Nat → Int32) × (Nat → Nat → Int32) × Nat × Nat × (Nat → Option Nat) × (Nat → Nat → Int32) × (Nat → Int32) × Nat
abbrev zMR : Type := (Nat → Int32) × (Nat → Int32) × (Nat → Int32) × (Nat → Int32) × (Nat → Int32)
/-- the class's world -/
def cT (cy : Nat → ClassId) (K : Nat) (ad : Nat → Nat) (g : Nat → va_E) (C : zCR) : Prop := isT cy K ad g C.1 C.2.1 C.2.2.1 C.2.2.2.1 C.2.2.2.2.1 C.2.2.2.2.2.1 C.2.2.2.2.2.2.1 C.2.2.2.2.2.2.2
/-- the reference's world -/
def mT (cy : Nat → ClassId) (K : Nat) (ad : Nat → Nat) (g : Nat → va_E) (sz ln : Nat) (M : zMR) (th : Int32) : Prop := ∃ (az kn lo : Nat → Int32) (dg : Int64), isM cy K ad g 221 M.1 az M.2.1 M.2.2.1 M.2.2.2.1 M.2.2.2.2 kn lo th (nI sz) (nI ln) dg
/-- the row for an answer -/
def oV (cy : Nat → ClassId) (K : Nat) (g : Nat → va_E) (v : Int64) : Prop := 230 < K ∧ ∃ f : Nat → Int64, g 230 = .inl (cy 5, 1, .inr (.inl f)) ∧ f 0 = v
def zClO (z : Nat) : Prop := zCl z ∨ z = 230
def zNc (U : State) : Prop := va_Nc zIAE zIOB U ∧ va_Nc zISE zIAE U
theorem zNc.warm {s U : State} (hW : s.WarmedH U.vm) (h : zNc s) : zNc U := ⟨h.1.moved hW.alike, h.2.moved hW.alike⟩
def zInW (D : va_G) (cy : Nat → ClassId) (K : Nat) (ad : Nat → Nat) (g : Nat → va_E) (sz : Nat) (U : State) : Prop := zInX D cy K ad g sz U ∧ zNc U
section
variable {cy : Nat → ClassId} {K : Nat} {ad : Nat → Nat} {g g1 : Nat → va_E} {P : Nat → Prop}
theorem cT.n0 {C : zCR} (h : cT cy K ad g C) : 0 < K := isT.n0 h
theorem cT.rc {C : zCR} (h : cT cy K ad g C) : ∃ fs, g 0 = .inr (4, fs) := isT.rc h
theorem isT.kept {st : Nat → Int32} {sv : Nat → Nat → Int32} {nx sz : Nat} {ns : Nat → Option Nat} {ss : Nat → Nat → Int32} {bu : Nat → Int32} {ln : Nat} (h : isT cy K ad g st sv nx sz ns ss bu ln) (hf : zFr P g g1) (hd : ∀ z, zCl z → ¬ P z) : isT cy K ad g1 st sv nx sz ns ss bu ln := by
  obtain ⟨sn, tl, rs, x, hX, hH, hHi, hRs, hTr, hSn⟩ := h
  have d : ∀ z, z < 221 → ¬ P z := fun z h => hd z (Or.inl h)
  exact ⟨sn, tl, rs, x, hX.kept hf ⟨d _ (by decide), d _ (by decide), d _ (by decide), d _ (by decide)⟩, hH.kept hf (fun z _ h => d z (by omega)), hHi.kept hf (fun z _ h => d z (by omega)), isR.kept hRs hf (d _ (by decide)), hTr.kept hf (fun z _ h => d z (by omega)), hSn.kept hf (fun z h => hd z (Or.inr h))⟩
theorem cT.kept {C : zCR} (h : cT cy K ad g C) (hf : zFr P g g1) (hd : ∀ z, zCl z → ¬ P z) : cT cy K ad g1 C := isT.kept h hf hd
theorem mT.kept {sz ln : Nat} {M : zMR} {th : Int32} (h : mT cy K ad g sz ln M th) (hf : zFr P g g1) (hd : ∀ z, 221 ≤ z → z < 230 → ¬ P z) : mT cy K ad g1 sz ln M th := by
  obtain ⟨az, kn, lo, dg, h⟩ := h
  exact ⟨az, kn, lo, dg, h.kept hf ⟨hd _ (by decide) (by decide), hd _ (by decide) (by decide), hd _ (by decide) (by decide), hd _ (by decide) (by decide), hd _ (by decide) (by decide), hd _ (by decide) (by decide), hd _ (by decide) (by decide), hd _ (by decide) (by decide), hd _ (by decide) (by decide)⟩⟩
theorem oV.kept {v : Int64} (h : oV cy K g v) (hf : zFr P g g1) (hd : ¬ P 230) : oV cy K g1 v := by
  obtain ⟨h1, f, h2, h3⟩ := h
  exact ⟨h1, f, (hf 230 hd).trans h2, h3⟩
theorem mT.n0 {sz ln : Nat} {M : zMR} {th : Int32} (h : mT cy K ad g sz ln M th) : 221 < K := by
  obtain ⟨az, kn, lo, dg, h⟩ := h
  exact h.n0
theorem mT.rc {sz ln : Nat} {M : zMR} {th : Int32} (h : mT cy K ad g sz ln M th) : ∃ fs, g 221 = .inr (5, fs) := by
  obtain ⟨az, kn, lo, dg, h⟩ := h
  exact ⟨_, h.o⟩
theorem mT.gr {K1 : Nat} {ad1 : Nat → Nat} {sz ln : Nat} {M : zMR} {th : Int32} (h : mT cy K ad g sz ln M th) (hK : K ≤ K1) (ha : ∀ x, x < K → ad1 x = ad x) (hg : ∀ x, 221 ≤ x → x < 230 → g1 x = g x) : mT cy K1 ad1 g1 sz ln M th := by
  obtain ⟨az, kn, lo, dg, h⟩ := h
  refine ⟨az, kn, lo, dg, ?_⟩
  unfold isM at h ⊢
  obtain ⟨h0, h1, h2, h3, h4, h5, h6, h7, h8, h9⟩ := h
  exact ⟨by omega, by rw [hg 221 (by omega) (by omega), h1, ha (221 + 1) (by omega), ha (221 + 2) (by omega), ha (221 + 3) (by omega), ha (221 + 4) (by omega), ha (221 + 5) (by omega), ha (221 + 6) (by omega), ha (221 + 7) (by omega), ha (221 + 8) (by omega)],
    by rw [hg (221 + 1) (by omega) (by omega)]; exact h2, by rw [hg (221 + 2) (by omega) (by omega)]; exact h3, by rw [hg (221 + 3) (by omega) (by omega)]; exact h4, by rw [hg (221 + 4) (by omega) (by omega)]; exact h5, by rw [hg (221 + 5) (by omega) (by omega)]; exact h6, by rw [hg (221 + 6) (by omega) (by omega)]; exact h7, by rw [hg (221 + 7) (by omega) (by omega)]; exact h8, by rw [hg (221 + 8) (by omega) (by omega)]; exact h9⟩
end
/-! ===== contracts and calls with a table of handlers ===== -/
def zLh (own : String) (index : Nat) (y : MethodName) (bytes : ByteArray) (maxL : Nat) (ret : Option FieldType) (hh : List (Nat × Nat × Nat × Nat)) (n : Nat) : Prop := GoodIn zW (va_wsS own index y (zsH y bytes maxL ret hh)) ∧ (y.cls ≠ "java/lang/invoke/MethodHandle" ∧ y.cls ≠ "java/lang/invoke/VarHandle" ∧ (parseMethodDescriptor y.desc).map (fun d => d.parameters.length) = some n)
theorem zLh.of {own : String} {index : Nat} {y : MethodName} {bytes : ByteArray} {maxL : Nat} {ret : Option FieldType} {hh : List (Nat × Nat × Nat × Nat)} {n : Nat} (h1 : Cond.methodLink own index y ∈ zW) (h2 : Cond.static y ∈ zW) (h4 : Cond.initialized y.cls ∈ zW) (h5 : Cond.codeWith y bytes maxL ret hh ∈ zW) (h6 : y.cls ≠ "java/lang/invoke/MethodHandle" ∧ y.cls ≠ "java/lang/invoke/VarHandle" ∧ (parseMethodDescriptor y.desc).map (fun d => d.parameters.length) = some n) : zLh own index y bytes maxL ret hh n :=
  ⟨fun w hw => by
    rcases List.mem_append.mp (show w ∈ [Cond.methodLink own index y, .static y, .initialized y.cls] ++ zsH y bytes maxL ret hh from hw) with hw | hw
    · rcases List.mem_cons.mp hw with rfl | hw
      · exact zW_good _ h1
      rcases List.mem_cons.mp hw with rfl | hw
      · exact zW_good _ h2
      rcases List.mem_cons.mp hw with rfl | hw
      · exact zW_good _ h4
      cases hw
    · exact zsH_good h5 w hw, h6⟩
theorem zInW_blind {D : va_G} {cy : Nat → ClassId} {K : Nat} {ad : Nat → Nat} {g : Nat → va_E} {sz : Nat} {av : List Value} : FrameBlind (va_Pc av (zInW D cy K ad g sz)) := fun a U g' mk q => by
  obtain ⟨q0, q1, q2, q3⟩ := q
  exact ⟨q0, (zInX_blind a U g' mk ⟨q0, q1⟩).2, q2.moved (u := U) (U := U.calling g' mk a) (Vm.Alike.refl U.vm), q3.moved (u := U) (U := U.calling g' mk a) (Vm.Alike.refl U.vm)⟩
section ZLW
variable {p : Program} {l : Launch} {e : Env} {R : Room} {s : State} {m : MethodId} {args : Array Value} {below : List Frame} {meth : Method} {c : Code} {H : Heap} {locs : List Loc} {cells slots : Nat} {Q : State → Prop}
variable {D : va_G} {cy : Nat → ClassId} {K : Nat} {ad : Nat → Nat} {g : Nat → va_E} {A : Nat → Prop} {cc : ByteArray} {own : String} {nL pc : Nat} {ls : Array Slot} {rest : List Value}
theorem zInW_at (C0 : zC p s m args c meth cc nL own D cy A) (hT : zTh A s s.heap) (hN : zNc s) (hP : zP D K ad g A H) (hS : va_S A s.heap H locs) {av : List Value} : ∀ U : State, U.heap = H → s.WarmedH U.vm → va_Pc av (zInW D cy K ad g H.size) av.toArray U := fun U hU hW => ⟨rfl, (zInX_at (av := av) C0 hT hP hS U hU hW).2, hN.warm hW⟩
/-- run a static call of a method with handlers -/
theorem z_runSW (C0 : zC p s m args c meth cc nL own D cy A) (hT : zTh A s s.heap) (hN : zNc s) (hP : zP D K ad g A H) (hS : va_S A s.heap H locs) (hsz : ls.size = nL) {st0 As : List Value} {y : MethodName} {bytes : ByteArray} {maxL index k mc ms : Nat} {ret : Option FieldType} {hh : List (Nat × Nat × Nat × Nat)} {rm : Room} {Qc : Array Value → State → Outcome → State → Prop} {free : Addr → Prop}
    (hM : Met l y (zsH y bytes maxL ret hh) rm (va_Pc As (zInW D cy K ad g H.size)) Qc mc ms free) (hL : zLh own index y bytes maxL ret hh k) (hlen : As.length = k) (hst : st0 = As.reverse ++ rest) (hrest : (rest.map fun v => v.category).sum ≤ 8) (hrc : rm.cells = mc) (hrs : rm.slots = ms) (hR : rm.frames + 1 ≤ R.frames ∧ 8 + (maxL + 11) + rm.locals ≤ R.locals) (hf : cells + mc ≤ R.cells ∧ slots + ms ≤ R.slots) (hdg : decode cc pc = .ok (.invokestatic index, 3)) :
    va_Run p l e R s m args below meth c H locs cells slots mc ms (F0 m pc ls st0) rest (Qc As.toArray) free := by
  have C1 := C0
  obtain ⟨hx, hb, hml, hown, hts, hK, hA, hlk⟩ := C0
  exact vx_runSW (As := As) (rest := rest) ⟨hx, hb, hml, hown, hts⟩ hM (vx_cwSW k hts hL.1 rfl hrc hrs hL.2 hR) ⟨zInW_blind, zInW_at C1 hT hN hP hS⟩ rfl hlen hsz hst (lv_room hrest) hdg hf
theorem z_runVXr (C0 : zC p s m args c meth cc nL own D cy A) (hT : zTh A s s.heap) (hP : zP D K ad g A H) (hS : va_S A s.heap H locs) (hsz : ls.size = nL) {st0 As : List Value} {y : MethodName} {bytes : ByteArray} {maxL index ci b k : Nat} {ret : Option FieldType} {fs : List Value} {rm : Room} {E : String} {post : (Nat → va_E) → Prop}
    (hM : zXMr l y bytes maxL ret rm (.ref (ad b) :: As) D cy K ad g H.size E post) (hL : zLv own index ci y bytes maxL ret k) (hn : b < K) (he : g b = .inr (ci, fs)) (hlen : As.length = k) (hst : st0 = As.reverse ++ .ref (ad b) :: rest) (hrest : (rest.map fun v => v.category).sum ≤ 8) (hrc : rm.cells = 1) (hrs : rm.slots = 6) (hR : rm.frames + 1 ≤ R.frames ∧ 8 + (maxL + 11) + rm.locals ≤ R.locals) (hf : cells + 1 ≤ R.cells ∧ slots + 6 ≤ R.slots) (hdg : decode cc pc = .ok (.invokevirtual index, 3)) :
    vx_Run p l e R s m args below meth c H locs cells slots 1 6 (F0 m pc ls st0) rest (fun _ _ _ => False) (zXCr D cy K ad H.size E post) (zA K ad H.size) := by
  obtain ⟨Cn, T, N, hc, hG, hd⟩ := hL
  have C1 := C0
  obtain ⟨hx, hb, hml, hown, hts, hK, hA, hlk⟩ := C0
  have hq := zw_get (K := K) (ad := ad) (g := g) hn
  rw [he] at hq
  exact vx_runV (As := As) (rest := rest) (b := ad b) ⟨hx, hb, hml, hown, hts⟩ hM (cwV k hts hG rfl hrc hrs hd hR) ⟨zInX_blind, va_recv hK hP.1 (ci := ci) (q0 := b) hc hq, zInX_at C1 hT hP hS⟩ rfl hlen hsz hst (lv_room hrest) hdg hf
theorem z_thrownr (C0 : zC p s m args c meth cc nL own D cy A) (hP : zP D K ad g A H) (hS : va_S A s.heap H locs) {st0 : List Value} {E : String} {post : (Nat → va_E) → Prop}
    (hr : vx_Run p l e R s m args below meth c H locs cells slots 1 6 (F0 m pc ls st0) rest (fun _ _ _ => False) (zXCr D cy K ad H.size E post) (zA K ad H.size))
    (kx : ∀ (g1 : Nat → va_E) (ce : Cell) (q9 : Addr) (H1 : Heap) (locs1 : List Loc), post g1 → zP D K ad g1 A H1 → va_S A s.heap H1 locs1 → H1[q9]? = some ce → ce.vm = .none → s.vm.findClass E = some ce.cls → vx_W p l e R s m args below meth c H1 locs1 (cells + 1) (slots + 6) Q (F0 m pc ls rest) q9) : W p l e R s m args below meth c H locs cells slots Q (F0 m pc ls st0) := by
  have hA' := zA_in C0.2.2.2.2.2.2.1 hP hS
  intro T hT X
  rcases hr T hT X with ⟨v, st₀, t, T', L, h0, X', hL, e1, e2, hq, st⟩ | ⟨q, st₀, t, T', L, E', ce, h0, X', hL, e1, e2, ⟨u, hu, ⟨rfl, ho⟩, hF⟩, hce, hcv, hcl, st⟩
  · exact hq.elim
  · obtain ⟨k1, k2, k3⟩ := vx_keep h0 e1 hS (fun q _ h => hA' q h) hA' hL hF
    obtain ⟨t2, a1, b1⟩ := kx u ce q T'.heap (locs ++ L) hu (zP_out hA' e1.symm ho) k3 (by rw [e1]; exact hce) hcv hcl T' rfl X'
    exact ⟨t2, st.trans a1, b1⟩
end ZLW
section ZLM
variable {l : Launch} {D : va_G} {cy : Nat → ClassId} {K : Nat} {ad : Nat → Nat} {g : Nat → va_E}
theorem zXM.r {y : MethodName} {bytes : ByteArray} {maxL : Nat} {ret : Option FieldType} {rm : Room} {av : List Value} {sz : Nat} {E : String} {post : (Nat → va_E) → Prop} (h : zXM l y bytes maxL ret rm av D cy K ad g sz E) (hp : post g) : zXMr l y bytes maxL ret rm av D cy K ad g sz E post := by
  intro p e ha hc hk s m args below hf happ hP hK
  obtain ⟨n, o, h1, h2, h3, hQ⟩ := h p e ha hc hk s m args below hf happ hP hK
  refine ⟨n, o, h1, h2, h3, ?_⟩
  rcases hQ with hQ | ⟨q, ho, E', ce, L, ⟨u, -, hz, hF⟩, hr⟩
  · exact Or.inl hQ
  · exact Or.inr ⟨q, ho, E', ce, L, ⟨g, hp, hz, hF⟩, hr⟩
theorem z_metW {y : MethodName} {bytes : ByteArray} {maxL : Nat} {ret : Option FieldType} {hh : List (Nat × Nat × Nat × Nat)} {rm : Room} {av : List Value} {sz mc ms : Nat} {Qc : Array Value → State → Outcome → State → Prop} {free : Addr → Prop} (hy : plainName y.cls = true) (hlen : (lg_sl av).length ≤ maxL)
    (body : ∀ (p : Program) (e : Env) (s : State) (m : MethodId) (below : List Frame) (meth : Method) (c : Code) (ls : Array Slot), sz = s.heap.size → lv_has ls maxL (lv_args 0 av) → zC p s m av.toArray c meth bytes maxL y.cls D cy (zA K ad s.heap.size) → c.exceptionTable.toList = tableOf hh → zTh (zA K ad s.heap.size) s s.heap → zNc s → meth.sig.returnType = ret → zP D K ad g (zA K ad s.heap.size) s.heap → va_S (zA K ad s.heap.size) s.heap s.heap [] →
      W p l e rm s m av.toArray below meth c s.heap [] 0 0 (MQ below Qc av.toArray s mc ms free) (F0 m 0 ls [])) : Met l y (zsH y bytes maxL ret hh) rm (va_Pc av (zInW D cy K ad g sz)) Qc mc ms free := by
  refine va_MetW (cc := bytes) (maxL := maxL) (ret := ret) (hh := hh) hy rfl ?_
  intro p e s m args below meth c s₁ B hml hv
  obtain ⟨rfl, ⟨⟨hsz, hP, hK, hD0⟩, hT⟩, hN⟩ := hv
  have hts := atoms_spec (ws := zsH y bytes maxL ret hh) B.pre
  have htab := vx_table (x := y) B (hts _ List.mem_cons_self)
  have hown : s.vm.findClass y.cls = some m.cls := findClass_of_methodNamed B.named
  have hl := lv_entry av (n := maxL) hlen
  rw [lg_entry_eq]
  subst hsz
  have hD : va_D (zA K ad s.heap.size) (zw K ad g) := zw_D hD0 (fun n hn _ => Or.inl ⟨n, hn, rfl⟩)
  exact body p e s m below meth c _ rfl hl ⟨B.exec, B.bytes, hml, hown, fun w h => hts w (List.mem_cons_of_mem _ h), hK, fun q h => Or.inr h, B.notSynchronized⟩ htab hT hN B.returns ⟨hP, hD⟩ va_S.rf
end ZLM
def rmW : Room := { frames := 20, cells := 1, slots := 6, locals := 440 }
/-- a call of the law that catches: in this state and with these arguments it answers k; the answer v of the class lies in the row if k is 0; the class is then as C says -/
def wM (l : Launch) (y : MethodName) (c : ByteArray) (mL : Nat) (hh : List (Nat × Nat × Nat × Nat)) (av : List Value) (D : va_G) (cy : Nat → ClassId) (K : Nat) (ad : Nat → Nat) (g : Nat → va_E) (sz k : Nat) (v : Int32) (C : zCR) : Prop :=
  Met l y (zsH y c mL (some .int) hh) rmW (va_Pc av (zInW D cy K ad g sz)) (va_Qi (fun r g1 => r = nI k ∧ cT cy K ad g1 C ∧ (∃ w, oV cy K g1 w ∧ (k = 0 → w = v.toInt64)) ∧ zFr zClO g g1) (zOut D cy K ad sz) (zA K ad sz)) 1 6 (zA K ad sz)
