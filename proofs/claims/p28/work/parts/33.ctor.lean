/-! ===== objects in the making: the pool grows ===== -/
def zN (U : State) : Prop := va_AO "HerdCords$Cord" U ∧ va_AO "HerdCords$Herd" U ∧ va_Nw (.methodLinkNest "HerdCords$Herd" 36 ⟨"HerdCords$Cord", "<init>", "()V"⟩ "HerdCords") U ∧ va_Nw (.methodLinkNest "HerdCords" 44 ⟨"HerdCords$Cord", "<init>", "()V"⟩ "HerdCords") U ∧ va_Nw (.methodLinkNest "HerdCords" 37 ⟨"HerdCords$OrderReader", "<init>", "()V"⟩ "HerdCords") U
theorem zN.warm {s U : State} (hW : s.WarmedH U.vm) (h : zN s) : zN U := ⟨h.1.moved hW.alike, h.2.1.moved hW.alike, h.2.2.1.warmM hW, h.2.2.2.1.warmM hW, h.2.2.2.2.warmM hW⟩
theorem zN.call {U : State} {g' : JFrame} {mk : State → State → Outcome → Bool} {a : Array Value} (h : zN U) (U' : State) (e : U.vm = U'.vm) : zN U' := by
  refine ⟨?_, ?_, ?_, ?_, ?_⟩
  · exact h.1.moved (by rw [e]; exact Vm.Alike.refl _)
  · exact h.2.1.moved (by rw [e]; exact Vm.Alike.refl _)
  · exact va_tabs rfl e h.2.2.1
  · exact va_tabs rfl e h.2.2.2.1
  · exact va_tabs rfl e h.2.2.2.2
abbrev zU : Type := Nat × (Nat → Nat) × (Nat → va_E)
def zInN (D : va_G) (cy : Nat → ClassId) (K : Nat) (ad : Nat → Nat) (g : Nat → va_E) (sz : Nat) (U : State) : Prop := zIn D cy K ad g sz U ∧ zN U
def zOutN (D : va_G) (cy : Nat → ClassId) (K : Nat) (ad : Nat → Nat) (sz : Nat) (u : zU) (t : State) : Prop :=
  va_P D vwCl (zw u.1 u.2.1 u.2.2) t.heap ∧ va_K D vwCl (zT cy) t ∧ va_D (zA K ad sz) (zw u.1 u.2.1 u.2.2)
theorem z_RA_eq {U : State} {cA cB : ClassId} {ty : FieldType} (h1 : va_RA U cA ty) (h2 : va_RA U cB ty) : cA = cB := by
  cases ty with
  | object C =>
    obtain ⟨_, _, _, _, _, h1⟩ := h1
    obtain ⟨_, _, _, _, _, h2⟩ := h2
    exact Option.some.inj (h1.symm.trans h2)
  | _ => exact Option.some.inj (Eq.trans (Eq.symm h1) h2)
theorem z_K_last {D : va_G} {cy : Nat → ClassId} {cA : ClassId} {ty : FieldType} {U : State} (h : va_K D vwCl (zT cy ++ [(cA, ty)]) U) {t0 : Nat} (ht : (zT cy)[t0]? = some (cy t0, ty)) (h0 : va_K D vwCl (zT cy) U) : cA = cy t0 :=
  z_RA_eq (h.2 5 _ rfl).2 (h0.2 t0 _ ht).2
section ZCT
variable {p : Program} {l : Launch} {e : Env} {R : Room} {s : State} {m : MethodId} {args : Array Value} {below : List Frame} {meth : Method} {c : Code} {H : Heap} {locs : List Loc} {cells slots : Nat} {Q : State → Prop}
variable {D : va_G} {cy : Nat → ClassId} {K : Nat} {ad : Nat → Nat} {g : Nat → va_E} {A : Nat → Prop} {cc : ByteArray} {own : String} {nL pc : Nat} {ls : Array Slot} {rest : List Value}
/-- a new pool, one name larger -/
def zGr (K : Nat) (ad : Nat → Nat) (g : Nat → va_E) (ad1 : Nat → Nat) (g1 : Nat → va_E) : Prop := (∀ x, x < K → ad1 x = ad x) ∧ ∀ x, x < K → g1 x = g x
theorem zGr_up {q : Nat} {e1 : va_E} : zGr K ad g (va_up ad K q) (va_up g K e1) := ⟨fun x hx => va_up_ne _ _ (Nat.ne_of_lt hx), fun x hx => va_up_ne _ _ (Nat.ne_of_lt hx)⟩
theorem z_newa (C0 : zC p s m args c meth cc nL own D cy A) (hP : zP D K ad g A H) (hS : va_S A s.heap H locs) {atype : ArrayType} {ty : FieldType} (hw : Cond.arrayClass (newarray.typeOf atype) ∈ zW) (hty : newarray.typeOf atype = ty) {t0 : Nat} (ht : (zT cy)[t0]? = some (cy t0, ty)) {n : Int32} {N' : Nat} {a0 : vp_A} (ha : ∀ cA : ClassId, vp_cell cA a0 = arrV cA N' (fun _ => defaultValue ty)) (hn : ¬ n < 0) (hN : n.toNatClampNeg = N') (hbytes : N' * componentBytes ty ≤ 536870912) (hcells : cells + 1 ≤ R.cells) (hslots : slots + N' ≤ R.slots) (hdg : decode cc pc = .ok (.newarray atype, 2))
    (kk : ∀ (ad1 : Nat → Nat) (g1 : Nat → va_E) (q : Nat) (H1 : Heap), zGr K ad g ad1 g1 → ad1 K = q → g1 K = .inl (cy t0, a0) → zP D (K + 1) ad1 g1 A H1 → va_S A s.heap H1 locs → W p l e R s m args below meth c H1 locs (cells + 1) (slots + N') Q (F0 m (pc + 2) ls (.ref q :: rest))) : W p l e R s m args below meth c H locs cells slots Q (F0 m pc ls (.int n :: rest)) := by
  obtain ⟨hx, hb, hml, hown, hts, hK, hA, hlk⟩ := C0
  refine va_newa hx hb (hts _ hw) hty hK hP.1 hP.2 hS hA ha hn hN hbytes hcells hslots hdg (fun q cA H1 h1 h2 h3 h4 => ?_)
  have e1 := z_K_last h1 ht hK
  subst e1
  rw [zw_push] at h2 h3
  exact kk _ _ q H1 zGr_up (va_up_self _ _ _) (va_up_self _ _ _) ⟨h2, h3⟩ h4
theorem z_newq (C0 : zC p s m args c meth cc nL own D cy A) (hP : zP D K ad g A H) (hS : va_S A s.heap H locs) {C : String} {index : Nat} (hw : Cond.classLink own index C ∈ zW) (hov : va_AO C s) {t0 : Nat} (ht : (zT cy)[t0]? = some (cy t0, .object C)) {n : Int32} {N' : Nat} (hn : ¬ n < 0) (hN : n.toNatClampNeg = N') (hbytes : N' * 4 ≤ 536870912) (hcells : cells + 1 ≤ R.cells) (hslots : slots + N' ≤ R.slots) (hdg : decode cc pc = .ok (.anewarray index, 3))
    (kk : ∀ (ad1 : Nat → Nat) (g1 : Nat → va_E) (q : Nat) (H1 : Heap), zGr K ad g ad1 g1 → ad1 K = q → g1 K = .inl (cy t0, N', .inr (.inr (.inr (.inr (fun _ => none))))) → zP D (K + 1) ad1 g1 A H1 → va_S A s.heap H1 locs → W p l e R s m args below meth c H1 locs (cells + 1) (slots + N') Q (F0 m (pc + 3) ls (.ref q :: rest))) : W p l e R s m args below meth c H locs cells slots Q (F0 m pc ls (.int n :: rest)) := by
  obtain ⟨hx, hb, hml, hown, hts, hK, hA, hlk⟩ := C0
  refine va_newq hx hb hown (hts _ hw) hov hK hP.1 hP.2 hS hA hn hN hbytes hcells hslots hdg (fun q cA H1 h1 h2 h3 h4 => ?_)
  have e1 := z_K_last h1 ht hK
  subst e1
  rw [zw_push] at h2 h3
  exact kk _ _ q H1 zGr_up (va_up_self _ _ _) (va_up_self _ _ _) ⟨h2, h3⟩ h4
/-- what making an object asks of the tables -/
def zNw (own : String) (index ci : Nat) (fs : List Value) (N : Nat) : Prop := ∃ (C : String) (T : u_T) (ty : Nat → FieldType), vwCl[ci]? = some (C, T, N) ∧ (∀ w ∈ u_ws C T N, w ∈ zW) ∧ (∀ k, k < N → parseFieldDescriptor (T k).2.2.1 = some (ty k)) ∧ Cond.classLink own index C ∈ zW ∧ Cond.instantiable C N ∈ zW ∧ Cond.initialized C ∈ zW ∧ ∀ j, j < N → defaultValue (ty j) = vp_V fs j
theorem z_newc (C0 : zC p s m args c meth cc nL own D cy A) (hP : zP D K ad g A H) (hS : va_S A s.heap H locs) {index ci N : Nat} {fs : List Value} (hN : zNw own index ci fs N) (hcells : cells + 1 ≤ R.cells) (hslots : slots + N ≤ R.slots) (hdg : decode cc pc = .ok (.new index, 3))
    (kk : ∀ (ad1 : Nat → Nat) (g1 : Nat → va_E) (q : Nat) (H1 : Heap), zGr K ad g ad1 g1 → ad1 K = q → g1 K = .inr (ci, fs) → zP D (K + 1) ad1 g1 A H1 → va_S A s.heap H1 locs → W p l e R s m args below meth c H1 locs (cells + 1) (slots + N) Q (F0 m (pc + 3) ls (.ref q :: rest))) : W p l e R s m args below meth c H locs cells slots Q (F0 m pc ls rest) := by
  obtain ⟨hx, hb, hml, hown, hts, hK, hA, hlk⟩ := C0
  obtain ⟨C, T, ty, h1, h2, h3, h4, h5, h6, h7⟩ := hN
  refine va_new hx hb hts h2 ty h3 hown (hts _ h4) (hts _ h5) (hts _ h6) hK hP.1 hP.2 hS hA h1 h7 hcells hslots hdg (fun q H1 g2 g3 g4 => ?_)
  rw [zw_push] at g2 g3
  exact kk _ _ q H1 zGr_up (va_up_self _ _ _) (va_up_self _ _ _) ⟨g2, g3⟩ g4
/-- the constructor of java/lang/Object -/
theorem z_oi (C0 : zC p s m args c meth cc nL own D cy A) (hsz : ls.size = nL) {idx a : Nat} (h1 : Cond.methodLink own idx ⟨"java/lang/Object", "<init>", "()V"⟩ ∈ zW) (hf : 1 ≤ R.frames) (hlo : (rest.map fun v => v.category).sum + 12 ≤ R.locals) (hdg : decode cc pc = .ok (.invokespecial idx, 3))
    (kk : W p l e R s m args below meth c H locs cells slots Q (F0 m (pc + 3) ls rest)) : W p l e R s m args below meth c H locs cells slots Q (F0 m pc ls (.ref a :: rest)) := by
  obtain ⟨hx, hb, hml, hown, hts, hK, hA, hlk⟩ := C0
  exact W.objInit hx hb hown (hts _ h1) (hts _ q25) (hts _ q26) (g := F0 m pc ls (.ref a :: rest)) (a := a) (rest := rest) rfl (by show ls.size = _; rw [hml]; exact hsz) rfl hdg hf (by show 2 * 0 + _ + 12 ≤ _; omega) kk
theorem z_putFq (C0 : zC p s m args c meth cc nL own D cy A) (hP : zP D K ad g A H) (hS : va_S A s.heap H locs) (hinit : meth.name = "<init>") {q n ci index k : Nat} {fs : List Value} {v : Value} {ty : FieldType} (hq : ad n = q) (hn : n < K) (he : g n = .inr (ci, fs)) (hF : zFp own index ci k ty true) (hco : vwCl[ci]?.map (·.1) = some own) (hnr : narrow ty v = v) (hfit : fits ty v = true) (hl : k < fs.length) (hdg : decode cc pc = .ok (.putfield index, 3))
    (kk : ∀ (g1 : Nat → va_E) (H1 : Heap) (locs1 : List Loc), (∀ x, x ≠ n → g1 x = g x) → g1 n = .inr (ci, fs.set k v) → zP D K ad g1 A H1 → va_S A s.heap H1 locs1 → W p l e R s m args below meth c H1 locs1 cells slots Q (F0 m (pc + 3) ls rest)) : W p l e R s m args below meth c H locs cells slots Q (F0 m pc ls (v :: .ref q :: rest)) := by
  subst hq
  exact z_putF C0 hP hS hinit hn he hF hco hnr hfit hl hdg (fun H1 locs1 h1 h2 => kk _ H1 locs1 (fun x hx => va_up_ne _ _ hx) (va_up_self _ _ _) h1 h2)
theorem z_putq (C0 : zC p s m args c meth cc nL own D cy A) (hP : zP D K ad g A H) (hS : va_S A s.heap H locs) {q n ci index k : Nat} {fs : List Value} {v : Value} {ty : FieldType} (hq : ad n = q) (hn : n < K) (he : g n = .inr (ci, fs)) (hF : zFp own index ci k ty false) (hnr : narrow ty v = v) (hfit : fits ty v = true) (hl : k < fs.length) (hdg : decode cc pc = .ok (.putfield index, 3))
    (kk : ∀ (g1 : Nat → va_E) (H1 : Heap) (locs1 : List Loc), (∀ x, x ≠ n → g1 x = g x) → g1 n = .inr (ci, fs.set k v) → zP D K ad g1 A H1 → va_S A s.heap H1 locs1 → W p l e R s m args below meth c H1 locs1 cells slots Q (F0 m (pc + 3) ls rest)) : W p l e R s m args below meth c H locs cells slots Q (F0 m pc ls (v :: .ref q :: rest)) := by
  subst hq
  exact z_put C0 hP hS hn he hF hnr hfit hl hdg (fun H1 locs1 h1 h2 => kk _ H1 locs1 (fun x hx => va_up_ne _ _ hx) (va_up_self _ _ _) h1 h2)
theorem z_getq (C0 : zC p s m args c meth cc nL own D cy A) (hP : zP D K ad g A H) {q n ci index k : Nat} {fs : List Value} {v : Value} (hq : ad n = q) (hn : n < K) (he : g n = .inr (ci, fs)) (hF : zFd own index ci k) (hv : fs[k]? = some v) (hdg : decode cc pc = .ok (.getfield index, 3))
    (kk : W p l e R s m args below meth c H locs cells slots Q (F0 m (pc + 3) ls (v :: rest))) : W p l e R s m args below meth c H locs cells slots Q (F0 m pc ls (.ref q :: rest)) := by
  subst hq
  exact z_get C0 hP hn he hF hv hdg kk
theorem z_aastq (C0 : zC p s m args c meth cc nL own D cy A) (hP : zP D K ad g A H) (hS : va_S A s.heap H locs) {n len j t0 b ci q r : Nat} {fn : Nat → Option Nat} {rc : vw_C} {vs : List Value} {i : Int32} (hq : ad n = q) (hr : ad b = r) (hn : n < K) (he : g n = .inl (cy t0, len, .inr (.inr (.inr (.inr fn))))) (hc : vwCl[ci]? = some rc) (ht : (zT cy)[t0]? = some (cy t0, .object rc.1)) (hbK : b < K) (hbe : g b = .inr (ci, vs)) (hi : zIx i len j) (hdg : decode cc pc = .ok (.aastore, 1))
    (kk : ∀ (g1 : Nat → va_E) (H1 : Heap) (locs1 : List Loc), (∀ x, x ≠ n → g1 x = g x) → g1 n = .inl (cy t0, len, .inr (.inr (.inr (.inr (va_up fn j (some (ad b))))))) → zP D K ad g1 A H1 → va_S A s.heap H1 locs1 → W p l e R s m args below meth c H1 locs1 cells slots Q (F0 m (pc + 1) ls rest)) : W p l e R s m args below meth c H locs cells slots Q (F0 m pc ls (.ref r :: .int i :: .ref q :: rest)) := by
  subst hq
  subst hr
  exact z_aast C0 hP hS hn he hc ht hbK hbe hi hdg (fun H1 locs1 h1 h2 => kk _ H1 locs1 (fun x hx => va_up_ne _ _ hx) (va_up_self _ _ _) h1 h2)
theorem zInN_blind {sz : Nat} {av : List Value} : FrameBlind (va_Pc av (zInN D cy K ad g sz)) := fun a U g' mk q => by
  obtain ⟨q0, ⟨q1, qP, qK, qD⟩, qN⟩ := q
  exact ⟨q0, ⟨q1, qP, va_K.moved (u := U) (U := U.calling g' mk a) (Vm.Alike.refl U.vm) qK, qD⟩, qN.call (g' := g') (mk := fun _ _ _ => true) (a := a) (U.calling g' mk a) rfl⟩
theorem zInN_at (C0 : zC p s m args c meth cc nL own D cy A) (hN : zN s) (hP : zP D K ad g A H) {av : List Value} : ∀ U : State, U.heap = H → s.WarmedH U.vm → va_Pc av (zInN D cy K ad g H.size) av.toArray U := fun U hU hW => ⟨rfl, (zIn_at (av := av) C0 hP U hU hW).2, hN.warm hW⟩
/-- behind a call that made names -/
theorem z_callvN (C0 : zC p s m args c meth cc nL own D cy A) (hP : zP D K ad g A H) (hS : va_S A s.heap H locs) {st0 : List Value} {mc ms : Nat} {av : Array Value} {post : zU → Prop}
    (hr : va_Run p l e R s m args below meth c H locs cells slots mc ms (F0 m pc ls st0) rest (va_Qv post (zOutN D cy K ad H.size) (zA K ad H.size) av) (zA K ad H.size))
    (kk : ∀ (K1 : Nat) (ad1 : Nat → Nat) (g1 : Nat → va_E) (H1 : Heap) (locs1 : List Loc), zP D K1 ad1 g1 A H1 → va_S A s.heap H1 locs1 → post (K1, ad1, g1) → W p l e R s m args below meth c H1 locs1 (cells + mc) (slots + ms) Q (F0 m (pc + 3) ls rest)) : W p l e R s m args below meth c H locs cells slots Q (F0 m pc ls st0) := by
  have hA' := zA_in C0.2.2.2.2.2.2.1 hP hS
  refine va_callv hr hS (fun q _ h => hA' q h) hA' (fun u t H1 locs1 ht hvm hp ho _ _ hS1 => ?_)
  obtain ⟨h1, -, h2⟩ := ho
  rw [ht] at h1
  exact kk u.1 u.2.1 u.2.2 H1 locs1 ⟨h1, h2.weaken (fun k q _ h => hA' q.1 h)⟩ hS1 hp
/-- a constructor's call -/
def zLi (own : String) (index : Nat) (y : MethodName) (bytes : ByteArray) (maxL : Nat) : Prop := Cond.methodLink own index y ∈ zW ∧ Cond.instanceMethod y ∈ zW ∧ Cond.initialized y.cls ∈ zW ∧ Cond.code y bytes maxL none ∈ zW ∧ y.name = "<init>" ∧ (y.cls ≠ "java/lang/invoke/MethodHandle" ∧ y.cls ≠ "java/lang/invoke/VarHandle" ∧ (parseMethodDescriptor y.desc).map (fun d => d.parameters.length) = some 0)
theorem z_runI (C0 : zC p s m args c meth cc nL own D cy A) (hN : zN s) (hP : zP D K ad g A H) (hsz : ls.size = nL) {y : MethodName} {bytes : ByteArray} {maxL index b q mc ms : Nat} {rm : Room} {Qc : Array Value → State → Outcome → State → Prop} {free : Addr → Prop}
    (hM : Met l y (zs y bytes maxL none) rm (va_Pc [.ref (ad b)] (zInN D cy K ad g H.size)) Qc mc ms free) (hL : zLi own index y bytes maxL) (hq : ad b = q) (hrest : (rest.map fun v => v.category).sum ≤ 8) (hrc : rm.cells = mc) (hrs : rm.slots = ms) (hR : rm.frames + 1 ≤ R.frames ∧ 8 + (maxL + 11) + rm.locals ≤ R.locals) (hf : cells + mc ≤ R.cells ∧ slots + ms ≤ R.slots) (hdg : decode cc pc = .ok (.invokespecial index, 3)) :
    va_Run p l e R s m args below meth c H locs cells slots mc ms (F0 m pc ls (.ref q :: rest)) rest (Qc [Value.ref (ad b)].toArray) free := by
  subst hq
  have C1 := C0
  obtain ⟨hx, hb, hml, hown, hts, hK, hA, hlk⟩ := C0
  obtain ⟨h1, h2, h3, h4, h5, h6⟩ := hL
  exact va_runI (As := []) (rest := rest) (b := ad b) ⟨hx, hb, hml, hown, hts⟩ hM ⟨callB_of 0 hts (zs_good h4) rfl hrc hrs (hts _ h3) (hts _ h1) h6 hR, h5, hts _ h2⟩ ⟨zInN_blind, zInN_at C1 hN hP⟩ rfl rfl hsz rfl (lv_room hrest) hdg hf
def zLn (own : String) (index : Nat) (y : MethodName) (bytes : ByteArray) (maxL : Nat) : Prop := Cond.instanceMethod y ∈ zW ∧ Cond.initialized y.cls ∈ zW ∧ Cond.code y bytes maxL none ∈ zW ∧ y.name = "<init>" ∧ (y.cls ≠ "java/lang/invoke/MethodHandle" ∧ y.cls ≠ "java/lang/invoke/VarHandle" ∧ (parseMethodDescriptor y.desc).map (fun d => d.parameters.length) = some 0)
theorem z_runIn (C0 : zC p s m args c meth cc nL own D cy A) (hN : zN s) (hP : zP D K ad g A H) (hsz : ls.size = nL) {y : MethodName} {bytes : ByteArray} {maxL index b q mc ms : Nat} {host : String} {rm : Room} {Qc : Array Value → State → Outcome → State → Prop} {free : Addr → Prop}
    (hM : Met l y (zs y bytes maxL none) rm (va_Pc [.ref (ad b)] (zInN D cy K ad g H.size)) Qc mc ms free) (hL : zLn own index y bytes maxL) (hnest : va_Nw (.methodLinkNest own index y host) s) (hq : ad b = q) (hrest : (rest.map fun v => v.category).sum ≤ 8) (hrc : rm.cells = mc) (hrs : rm.slots = ms) (hR : rm.frames + 1 ≤ R.frames ∧ 8 + (maxL + 11) + rm.locals ≤ R.locals) (hf : cells + mc ≤ R.cells ∧ slots + ms ≤ R.slots) (hdg : decode cc pc = .ok (.invokespecial index, 3)) :
    va_Run p l e R s m args below meth c H locs cells slots mc ms (F0 m pc ls (.ref q :: rest)) rest (Qc [Value.ref (ad b)].toArray) free := by
  subst hq
  have C1 := C0
  obtain ⟨hx, hb, hml, hown, hts, hK, hA, hlk⟩ := C0
  obtain ⟨h2, h3, h4, h5, h6⟩ := hL
  exact va_runIN (As := []) (rest := rest) (b := ad b) ⟨hx, hb, hml, hown, hts⟩ hM ⟨va_cnB 0 hts (zs_good h4) rfl hrc hrs hnest (hts _ h3) h6 hR, h5, hts _ h2⟩ ⟨zInN_blind, zInN_at C1 hN hP⟩ rfl rfl hsz rfl (lv_room hrest) hdg hf
end ZCT
section ZME
variable {l : Launch} {D : va_G} {cy : Nat → ClassId} {K : Nat} {ad : Nat → Nat} {g : Nat → va_E}
theorem z_metN {y : MethodName} {bytes : ByteArray} {maxL : Nat} {ret : Option FieldType} {rm : Room} {av : List Value} {sz mc ms : Nat} {Qc : Array Value → State → Outcome → State → Prop} {free : Addr → Prop} (hy : plainName y.cls = true) (hlen : (lg_sl av).length ≤ maxL)
    (body : ∀ (p : Program) (e : Env) (s : State) (m : MethodId) (below : List Frame) (meth : Method) (c : Code) (ls : Array Slot), sz = s.heap.size → lv_has ls maxL (lv_args 0 av) → zC p s m av.toArray c meth bytes maxL y.cls D cy (zA K ad s.heap.size) → zN s → meth.sig.returnType = ret → meth.name = y.name → zP D K ad g (zA K ad s.heap.size) s.heap → va_S (zA K ad s.heap.size) s.heap s.heap [] →
      W p l e rm s m av.toArray below meth c s.heap [] 0 0 (MQ below Qc av.toArray s mc ms free) (F0 m 0 ls [])) : Met l y (zs y bytes maxL ret) rm (va_Pc av (zInN D cy K ad g sz)) Qc mc ms free := by
  refine Met.ofW (cc := bytes) (maxL := maxL) (ret := ret) hy rfl ?_
  intro p e s m args below meth c s₁ B hml hv
  obtain ⟨rfl, ⟨hsz, hP, hK, hD0⟩, hN⟩ := hv
  have hts := atoms_spec (ws := zs y bytes maxL ret) B.pre
  have hown : s.vm.findClass y.cls = some m.cls := findClass_of_methodNamed B.named
  have hl := lv_entry av (n := maxL) hlen
  rw [lg_entry_eq]
  have hD : va_D (zA K ad s.heap.size) (zw K ad g) := zw_D hD0 (fun n hn _ => Or.inl ⟨n, hn, rfl⟩)
  exact body p e s m below meth c _ hsz.symm hl ⟨B.exec, B.bytes, hml, hown, fun w h => hts w (List.mem_cons_of_mem _ h), hK, fun q h => Or.inr h, B.notSynchronized⟩ hN B.returns (name_of_methodNamed B.named B.method).1 ⟨hP, hD⟩ va_S.rf
end ZME
section ZMR
variable {p : Program} {l : Launch} {e : Env} {R : Room} {s : State} {m : MethodId} {args : Array Value} {below : List Frame} {meth : Method} {c : Code} {H : Heap} {locs : List Loc} {cells slots : Nat} {Q : State → Prop}
variable {D : va_G} {cy : Nat → ClassId} {K K1 : Nat} {ad ad1 : Nat → Nat} {g g1 : Nat → va_E} {A : Nat → Prop} {cc : ByteArray} {own : String} {nL pc : Nat} {ls : Array Slot} {rest : List Value}
theorem z_vretN (C0 : zC p s m args c meth cc nL own D cy (zA K ad s.heap.size)) (hP : zP D K1 ad1 g1 (zA K ad s.heap.size) H) (hS : va_S (zA K ad s.heap.size) s.heap H locs) {post : zU → Prop} (hr : meth.sig.returnType = none) (hp : post (K1, ad1, g1)) (hdg : decode cc pc = .ok (.return_, 1)) :
    W p l e R s m args below meth c H locs cells slots (MQ below (va_Qv post (zOutN D cy K ad s.heap.size) (zA K ad s.heap.size)) args s cells slots (zA K ad s.heap.size)) (F0 m pc ls []) :=
  W.vret C0.1 C0.2.1 hr (fun t ht hW => ⟨⟨(K1, ad1, g1), rfl, hp, ⟨by rw [ht]; exact hP.1, va_K.moved hW.alike C0.2.2.2.2.2.1, hP.2⟩⟩, hS.F ht⟩) hS.2.2 hdg C0.2.2.2.2.2.2.2
end ZMR
