/-! ===== my own rows: all objects in one pool, by their names 0, 1, 2 .. (the order in which they were made); ad: a name's address; g: what a name holds ===== -/
def zT (cy : Nat → ClassId) : List (ClassId × FieldType) := [(cy 0, .char), (cy 1, .int), (cy 2, .byte), (cy 3, .object "HerdCords$Cord"), (cy 4, .object "HerdCords$Herd")]
def zw (K : Nat) (ad : Nat → Nat) (g : Nat → va_E) : va_W := (List.range K).map (fun n => (ad n, g n))
theorem zw_get {K : Nat} {ad : Nat → Nat} {g : Nat → va_E} {n : Nat} (h : n < K) : (zw K ad g)[n]? = some (ad n, g n) := by
  simp [zw, List.getElem?_map, List.getElem?_range, h]
theorem zw_inv {K : Nat} {ad : Nat → Nat} {g : Nat → va_E} {n : Nat} {q : Nat × va_E} (h : (zw K ad g)[n]? = some q) : n < K ∧ q = (ad n, g n) := by
  by_cases hn : n < K
  · rw [zw_get hn] at h; exact ⟨hn, (Option.some.inj h).symm⟩
  · rw [List.getElem?_eq_none (by simp [zw]; omega)] at h; cases h
theorem zw_set {K : Nat} {ad : Nat → Nat} {g : Nat → va_E} {n : Nat} {e : va_E} (h : n < K) : (zw K ad g).set n (ad n, e) = zw K ad (va_up g n e) := by
  apply List.ext_getElem?
  intro i
  by_cases hi : i < K
  · rw [zw_get hi]
    by_cases hin : n = i
    · subst hin
      rw [List.getElem?_set_self (by simp [zw]; exact h), va_up_self]
    · rw [List.getElem?_set_ne hin, zw_get hi, va_up_ne _ _ (Ne.symm hin)]
  · rw [List.getElem?_eq_none (by simp [zw]; omega), List.getElem?_eq_none (by simp [zw]; omega)]
theorem zw_push {K : Nat} {ad : Nat → Nat} {g : Nat → va_E} {q : Nat} {e : va_E} : zw K ad g ++ [(q, e)] = zw (K + 1) (va_up ad K q) (va_up g K e) := by
  unfold zw
  rw [List.range_succ, List.map_append, List.map_singleton, va_up_self, va_up_self]
  congr 1
  apply List.map_congr_left
  intro n hn
  have h1 : n ≠ K := Nat.ne_of_lt (List.mem_range.mp hn)
  rw [va_up_ne _ _ h1, va_up_ne _ _ h1]
def zP (D : va_G) (K : Nat) (ad : Nat → Nat) (g : Nat → va_E) (A : Nat → Prop) (H : Heap) : Prop := va_P D vwCl (zw K ad g) H ∧ va_D A (zw K ad g)
/-- the cells that a method may change: the pool's, and new ones -/
def zA (K : Nat) (ad : Nat → Nat) (sz : Nat) : Nat → Prop := fun q => (∃ n, n < K ∧ q = ad n) ∨ sz ≤ q
def zIn (D : va_G) (cy : Nat → ClassId) (K : Nat) (ad : Nat → Nat) (g : Nat → va_E) (sz : Nat) (U : State) : Prop :=
  U.heap.size = sz ∧ va_P D vwCl (zw K ad g) U.heap ∧ va_K D vwCl (zT cy) U ∧ va_D (fun _ => True) (zw K ad g)
def zOut (D : va_G) (cy : Nat → ClassId) (K : Nat) (ad : Nat → Nat) (sz : Nat) (g : Nat → va_E) (t : State) : Prop :=
  va_P D vwCl (zw K ad g) t.heap ∧ va_K D vwCl (zT cy) t ∧ va_D (zA K ad sz) (zw K ad g)
theorem zw_D {A B : Nat → Prop} {K : Nat} {ad : Nat → Nat} {g g' : Nat → va_E} (h : va_D A (zw K ad g)) (hAB : ∀ n, n < K → A (ad n) → B (ad n)) : va_D B (zw K ad g') := by
  refine ⟨fun i j p q hp hq hpq => ?_, fun k q hk => ?_⟩
  · obtain ⟨h1, rfl⟩ := zw_inv hp
    obtain ⟨h2, rfl⟩ := zw_inv hq
    exact h.1 i j _ _ (zw_get h1) (zw_get h2) hpq
  · obtain ⟨h1, rfl⟩ := zw_inv hk
    exact hAB k h1 (h.2 k _ (zw_get h1))
theorem zP.A {D : va_G} {K : Nat} {ad : Nat → Nat} {g : Nat → va_E} {A : Nat → Prop} {H : Heap} (h : zP D K ad g A H) {n : Nat} (hn : n < K) : A (ad n) := h.2.2 n _ (zw_get hn)
/-- a walk's standing facts -/
def zC (p : Program) (s : State) (m : MethodId) (args : Array Value) (c : Code) (meth : Method) (cc : ByteArray) (nL : Nat) (own : String) (D : va_G) (cy : Nat → ClassId) (A : Nat → Prop) : Prop :=
  p.tables.exec = Jvm.exec ∧ c.code = cc ∧ c.maxLocals = nL ∧ s.vm.findClass own = some m.cls ∧ (∀ w ∈ zW, w.before args s = true) ∧ va_K D vwCl (zT cy) s ∧ (∀ q, s.heap.size ≤ q → A q) ∧ meth.locks = false
/-- what else stays: all names but those of P -/
def zFr (P : Nat → Prop) (g g' : Nat → va_E) : Prop := ∀ x, ¬ P x → g' x = g x
theorem zFr.rf {P : Nat → Prop} {g : Nat → va_E} : zFr P g g := fun _ _ => rfl
theorem zFr.tr {P : Nat → Prop} {g g1 g2 : Nat → va_E} (h1 : zFr P g g1) (h2 : zFr P g1 g2) : zFr P g g2 := fun x hx => (h2 x hx).trans (h1 x hx)
theorem zFr.mono {P P' : Nat → Prop} {g g1 : Nat → va_E} (h : zFr P g g1) (hP : ∀ x, P x → P' x) : zFr P' g g1 := fun x hx => h x (fun q => hx (hP x q))
theorem zFr.up {P : Nat → Prop} {g g1 : Nat → va_E} {n : Nat} {e : va_E} (h : zFr P g g1) (hn : P n) : zFr P g (va_up g1 n e) := fun x hx => (va_up_ne _ _ (fun q => hx (by rw [q]; exact hn))).trans (h x hx)
/-- an index into a row of len places -/
def zIx (i : Int32) (len j : Nat) : Prop := vp_in i len ∧ i.toNatClampNeg = j
theorem zIx_nI {j len : Nat} (h : j < len) (hl : len < 2 ^ 31) : zIx (nI j) len j := ⟨vp_in_nI h hl, nI_clamp (by omega)⟩
theorem zIx_of {i : Int32} {j len : Nat} (hi : i = nI j) (h : j < len) (hl : len < 2 ^ 31) : zIx i len j := by rw [hi]; exact zIx_nI h hl
def zFd (own : String) (index ci k : Nat) : Prop := ∃ (C : String) (T : u_T) (N : Nat), vwCl[ci]? = some (C, T, N) ∧ (∀ w ∈ u_ws C T N, w ∈ zW) ∧ k < N ∧ Cond.fieldLink own index (T k).1 (T k).2.1 (T k).2.2.1 ∈ zW
def zFp (own : String) (index ci k : Nat) (ty : FieldType) (fin : Bool) : Prop := ∃ (C : String) (T : u_T) (N : Nat) (ty0 : Nat → FieldType), vwCl[ci]? = some (C, T, N) ∧ (∀ w ∈ u_ws C T N, w ∈ zW) ∧ (∀ k, k < N → parseFieldDescriptor (T k).2.2.1 = some (ty0 k)) ∧ (∀ a, a < N → ∀ b, b < N → a ≠ b → (T a).2.1 ≠ (T b).2.1) ∧ k < N ∧ Cond.fieldLink own index (T k).1 (T k).2.1 (T k).2.2.1 ∈ zW ∧ (T k).2.2.2 = fin ∧ parseFieldDescriptor (T k).2.2.1 = some ty ∧ (T k).1 = C
/-- a virtual call's words -/
def zLv (own : String) (index ci : Nat) (y : MethodName) (bytes : ByteArray) (maxL : Nat) (ret : Option FieldType) (n : Nat) : Prop := ∃ (C : String) (T : u_T) (N : Nat), vwCl[ci]? = some (C, T, N) ∧ GoodIn zW (wsV own index C y (zs y bytes maxL ret)) ∧ (y.cls = C ∧ y.cls ≠ "java/lang/invoke/MethodHandle" ∧ y.cls ≠ "java/lang/invoke/VarHandle" ∧ (parseMethodDescriptor y.desc).map (fun d => d.parameters.length) = some n)
theorem zLv.of {own : String} {index ci : Nat} {y : MethodName} {bytes : ByteArray} {maxL : Nat} {ret : Option FieldType} {n : Nat} {C : String} {T : u_T} {N : Nat} (h0 : vwCl[ci]? = some (C, T, N)) (h1 : Cond.methodLink own index y ∈ zW) (h2 : Cond.instanceMethod y ∈ zW) (h3 : Cond.selects C y y ∈ zW) (h4 : Cond.initialized C ∈ zW) (h5 : Cond.code y bytes maxL ret ∈ zW) (h6 : y.cls = C ∧ y.cls ≠ "java/lang/invoke/MethodHandle" ∧ y.cls ≠ "java/lang/invoke/VarHandle" ∧ (parseMethodDescriptor y.desc).map (fun d => d.parameters.length) = some n) : zLv own index ci y bytes maxL ret n :=
  ⟨C, T, N, h0, fun w hw => by
    rcases List.mem_append.mp (show w ∈ [Cond.methodLink own index y, .instanceMethod y, .selects C y y, .initialized C] ++ zs y bytes maxL ret from hw) with hw | hw
    · rcases List.mem_cons.mp hw with rfl | hw
      · exact zW_good _ h1
      rcases List.mem_cons.mp hw with rfl | hw
      · exact zW_good _ h2
      rcases List.mem_cons.mp hw with rfl | hw
      · exact zW_good _ h3
      rcases List.mem_cons.mp hw with rfl | hw
      · exact zW_good _ h4
      cases hw
    · exact zs_good h5 w hw, h6⟩
/-- a static call's words -/
def zLs (own : String) (index : Nat) (y : MethodName) (bytes : ByteArray) (maxL : Nat) (ret : Option FieldType) (n : Nat) : Prop := GoodIn zW (va_wsS own index y (zs y bytes maxL ret)) ∧ (y.cls ≠ "java/lang/invoke/MethodHandle" ∧ y.cls ≠ "java/lang/invoke/VarHandle" ∧ (parseMethodDescriptor y.desc).map (fun d => d.parameters.length) = some n)
theorem zLs.of {own : String} {index : Nat} {y : MethodName} {bytes : ByteArray} {maxL : Nat} {ret : Option FieldType} {n : Nat} (h1 : Cond.methodLink own index y ∈ zW) (h2 : Cond.static y ∈ zW) (h4 : Cond.initialized y.cls ∈ zW) (h5 : Cond.code y bytes maxL ret ∈ zW) (h6 : y.cls ≠ "java/lang/invoke/MethodHandle" ∧ y.cls ≠ "java/lang/invoke/VarHandle" ∧ (parseMethodDescriptor y.desc).map (fun d => d.parameters.length) = some n) : zLs own index y bytes maxL ret n :=
  ⟨fun w hw => by
    rcases List.mem_append.mp (show w ∈ [Cond.methodLink own index y, .static y, .initialized y.cls] ++ zs y bytes maxL ret from hw) with hw | hw
    · rcases List.mem_cons.mp hw with rfl | hw
      · exact zW_good _ h1
      rcases List.mem_cons.mp hw with rfl | hw
      · exact zW_good _ h2
      rcases List.mem_cons.mp hw with rfl | hw
      · exact zW_good _ h4
      cases hw
    · exact zs_good h5 w hw, h6⟩
section ZR
variable {p : Program} {l : Launch} {e : Env} {R : Room} {s : State} {m : MethodId} {args : Array Value} {below : List Frame} {meth : Method} {c : Code} {H : Heap} {locs : List Loc} {cells slots : Nat} {Q : State → Prop}
variable {D : va_G} {cy : Nat → ClassId} {K : Nat} {ad : Nat → Nat} {g : Nat → va_E} {A : Nat → Prop} {cc : ByteArray} {own : String} {nL pc : Nat} {ls : Array Slot} {rest : List Value}
theorem z_get (C0 : zC p s m args c meth cc nL own D cy A) (hP : zP D K ad g A H) {n ci index k : Nat} {fs : List Value} {v : Value} (hn : n < K) (he : g n = .inr (ci, fs)) (hF : zFd own index ci k) (hv : fs[k]? = some v) (hdg : decode cc pc = .ok (.getfield index, 3))
    (kk : W p l e R s m args below meth c H locs cells slots Q (F0 m (pc + 3) ls (v :: rest))) : W p l e R s m args below meth c H locs cells slots Q (F0 m pc ls (.ref (ad n) :: rest)) := by
  obtain ⟨hx, hb, hml, hown, hts, hK, hA, hlk⟩ := C0
  obtain ⟨Cn, T, N, hc, hin, hk, hl⟩ := hF
  have hq := zw_get (K := K) (ad := ad) (g := g) hn
  rw [he] at hq
  exact va_get hx hb hts hin hown hK hP.1 n hq hc k hk (hts _ hl) (fun _ h => h) hv hdg kk
theorem z_put (C0 : zC p s m args c meth cc nL own D cy A) (hP : zP D K ad g A H) (hS : va_S A s.heap H locs) {n ci index k : Nat} {fs : List Value} {v : Value} {ty : FieldType} (hn : n < K) (he : g n = .inr (ci, fs)) (hF : zFp own index ci k ty false) (hnr : narrow ty v = v) (hfit : fits ty v = true) (hl : k < fs.length) (hdg : decode cc pc = .ok (.putfield index, 3))
    (kk : ∀ (H1 : Heap) (locs1 : List Loc), zP D K ad (va_up g n (.inr (ci, fs.set k v))) A H1 → va_S A s.heap H1 locs1 → W p l e R s m args below meth c H1 locs1 cells slots Q (F0 m (pc + 3) ls rest)) : W p l e R s m args below meth c H locs cells slots Q (F0 m pc ls (v :: .ref (ad n) :: rest)) := by
  obtain ⟨hx, hb, hml, hown, hts, hK, hA, hlk⟩ := C0
  obtain ⟨Cn, T, N, ty0, hc, hin, hty, hnm, hk, hlw, hfin, hd, -⟩ := hF
  have hq := zw_get (K := K) (ad := ad) (g := g) hn
  rw [he] at hq
  refine va_put hx hb hts hin ty0 hty hnm hown hK hP.1 hP.2 hS n hq hc k hk (hts _ hlw) (fun _ h => h) hfin hd hnr hfit hl hdg (fun H1 locs1 h1 h2 h3 => ?_)
  rw [zw_set hn] at h1 h2
  exact kk H1 locs1 ⟨h1, h2⟩ h3
theorem z_putF (C0 : zC p s m args c meth cc nL own D cy A) (hP : zP D K ad g A H) (hS : va_S A s.heap H locs) (hinit : meth.name = "<init>") {n ci index k : Nat} {fs : List Value} {v : Value} {ty : FieldType} (hn : n < K) (he : g n = .inr (ci, fs)) (hF : zFp own index ci k ty true) (hco : vwCl[ci]?.map (·.1) = some own) (hnr : narrow ty v = v) (hfit : fits ty v = true) (hl : k < fs.length) (hdg : decode cc pc = .ok (.putfield index, 3))
    (kk : ∀ (H1 : Heap) (locs1 : List Loc), zP D K ad (va_up g n (.inr (ci, fs.set k v))) A H1 → va_S A s.heap H1 locs1 → W p l e R s m args below meth c H1 locs1 cells slots Q (F0 m (pc + 3) ls rest)) : W p l e R s m args below meth c H locs cells slots Q (F0 m pc ls (v :: .ref (ad n) :: rest)) := by
  obtain ⟨hx, hb, hml, hown, hts, hK, hA, hlk⟩ := C0
  obtain ⟨Cn, T, N, ty0, hc, hin, hty, hnm, hk, hlw, hfin, hd, hCn⟩ := hF
  have hq := zw_get (K := K) (ad := ad) (g := g) hn
  rw [he] at hq
  have hcn : Cn = own := by rw [hc] at hco; exact Option.some.inj hco
  refine va_putF hx hb hts hin ty0 hty hnm hown hK hP.1 hP.2 hS n hq hc k hk (hts _ hlw) (fun _ h => h) hfin hinit (hCn.trans hcn) hd hnr hfit hl hdg (fun H1 locs1 h1 h2 h3 => ?_)
  rw [zw_set hn] at h1 h2
  exact kk H1 locs1 ⟨h1, h2⟩ h3
theorem z_iald (C0 : zC p s m args c meth cc nL own D cy A) (hP : zP D K ad g A H) {n len j : Nat} {fn : Nat → Int32} {i : Int32} (hn : n < K) (he : g n = .inl (cy 1, len, .inl fn)) (hi : zIx i len j) (hdg : decode cc pc = .ok (.iaload, 1))
    (kk : W p l e R s m args below meth c H locs cells slots Q (F0 m (pc + 1) ls (.int (fn j) :: rest))) : W p l e R s m args below meth c H locs cells slots Q (F0 m pc ls (.int i :: .ref (ad n) :: rest)) := by
  obtain ⟨hx, hb, hml, hown, hts, hK, hA, hlk⟩ := C0
  have hq := zw_get (K := K) (ad := ad) (g := g) hn
  rw [he] at hq
  obtain ⟨h1, rfl⟩ := hi
  exact va_iald hx hb hK hP.1 n 1 hq rfl h1 hdg kk
theorem z_cald (C0 : zC p s m args c meth cc nL own D cy A) (hP : zP D K ad g A H) {n len j : Nat} {fn : Nat → Int32} {i : Int32} (hn : n < K) (he : g n = .inl (cy 0, len, .inl fn)) (hi : zIx i len j) (hdg : decode cc pc = .ok (.caload, 1))
    (kk : W p l e R s m args below meth c H locs cells slots Q (F0 m (pc + 1) ls (.int (fn j) :: rest))) : W p l e R s m args below meth c H locs cells slots Q (F0 m pc ls (.int i :: .ref (ad n) :: rest)) := by
  obtain ⟨hx, hb, hml, hown, hts, hK, hA, hlk⟩ := C0
  have hq := zw_get (K := K) (ad := ad) (g := g) hn
  rw [he] at hq
  obtain ⟨h1, rfl⟩ := hi
  exact va_cald hx hb hK hP.1 n 0 hq rfl h1 hdg kk
theorem z_aald (C0 : zC p s m args c meth cc nL own D cy A) (hP : zP D K ad g A H) {n len j t0 : Nat} {E : String} {fn : Nat → Option Nat} {i : Int32} {v : Value} (hn : n < K) (he : g n = .inl (cy t0, len, .inr (.inr (.inr (.inr fn))))) (ht : (zT cy)[t0]? = some (cy t0, .object E)) (hi : zIx i len j) (hv : va_rf (fn j) = v) (hdg : decode cc pc = .ok (.aaload, 1))
    (kk : W p l e R s m args below meth c H locs cells slots Q (F0 m (pc + 1) ls (v :: rest))) : W p l e R s m args below meth c H locs cells slots Q (F0 m pc ls (.int i :: .ref (ad n) :: rest)) := by
  obtain ⟨hx, hb, hml, hown, hts, hK, hA, hlk⟩ := C0
  have hq := zw_get (K := K) (ad := ad) (g := g) hn
  rw [he] at hq
  obtain ⟨h1, rfl⟩ := hi
  subst hv
  exact va_aldq hx hb hK hP.1 n t0 hq ht h1 hdg kk
theorem z_alen (C0 : zC p s m args c meth cc nL own D cy A) (hP : zP D K ad g A H) {n t0 : Nat} {x : vp_A} {ty : FieldType} {v : Int32} (hn : n < K) (he : g n = .inl (cy t0, x)) (ht : (zT cy)[t0]? = some (cy t0, ty)) (hv : Int32.ofNat x.1 = v) (hdg : decode cc pc = .ok (.arraylength, 1))
    (kk : W p l e R s m args below meth c H locs cells slots Q (F0 m (pc + 1) ls (.int v :: rest))) : W p l e R s m args below meth c H locs cells slots Q (F0 m pc ls (.ref (ad n) :: rest)) := by
  obtain ⟨hx, hb, hml, hown, hts, hK, hA, hlk⟩ := C0
  have hq := zw_get (K := K) (ad := ad) (g := g) hn
  rw [he] at hq
  exact va_alen hx hb hK hP.1 n t0 hq ht hv hdg kk
theorem z_iast (C0 : zC p s m args c meth cc nL own D cy A) (hP : zP D K ad g A H) (hS : va_S A s.heap H locs) {n len j : Nat} {fn : Nat → Int32} {i x : Int32} (hn : n < K) (he : g n = .inl (cy 1, len, .inl fn)) (hi : zIx i len j) (hdg : decode cc pc = .ok (.iastore, 1))
    (kk : ∀ (H1 : Heap) (locs1 : List Loc), zP D K ad (va_up g n (.inl (cy 1, len, .inl (upd fn j x)))) A H1 → va_S A s.heap H1 locs1 → W p l e R s m args below meth c H1 locs1 cells slots Q (F0 m (pc + 1) ls rest)) : W p l e R s m args below meth c H locs cells slots Q (F0 m pc ls (.int x :: .int i :: .ref (ad n) :: rest)) := by
  obtain ⟨hx, hb, hml, hown, hts, hK, hA, hlk⟩ := C0
  have hq := zw_get (K := K) (ad := ad) (g := g) hn
  rw [he] at hq
  obtain ⟨h1, rfl⟩ := hi
  refine va_iast hx hb hK hP.1 hP.2 hS n 1 hq rfl h1 hdg (fun H1 locs1 h1 h2 h3 => ?_)
  rw [zw_set hn] at h1 h2
  exact kk H1 locs1 ⟨h1, h2⟩ h3
theorem z_cast (C0 : zC p s m args c meth cc nL own D cy A) (hP : zP D K ad g A H) (hS : va_S A s.heap H locs) {n len j : Nat} {fn : Nat → Int32} {i x : Int32} (hn : n < K) (he : g n = .inl (cy 0, len, .inl fn)) (hi : zIx i len j) (hx2 : vp_nar .char x = x) (hdg : decode cc pc = .ok (.castore, 1))
    (kk : ∀ (H1 : Heap) (locs1 : List Loc), zP D K ad (va_up g n (.inl (cy 0, len, .inl (upd fn j x)))) A H1 → va_S A s.heap H1 locs1 → W p l e R s m args below meth c H1 locs1 cells slots Q (F0 m (pc + 1) ls rest)) : W p l e R s m args below meth c H locs cells slots Q (F0 m pc ls (.int x :: .int i :: .ref (ad n) :: rest)) := by
  obtain ⟨hx, hb, hml, hown, hts, hK, hA, hlk⟩ := C0
  have hq := zw_get (K := K) (ad := ad) (g := g) hn
  rw [he] at hq
  obtain ⟨h1, rfl⟩ := hi
  refine va_cast hx hb hK hP.1 hP.2 hS n 0 hq rfl h1 hdg (fun H1 locs1 h1 h2 h3 => ?_)
  rw [hx2, zw_set hn] at h1 h2
  exact kk H1 locs1 ⟨h1, h2⟩ h3
theorem z_aast (C0 : zC p s m args c meth cc nL own D cy A) (hP : zP D K ad g A H) (hS : va_S A s.heap H locs) {n len j t0 b ci : Nat} {fn : Nat → Option Nat} {r : vw_C} {vs : List Value} {i : Int32} (hn : n < K) (he : g n = .inl (cy t0, len, .inr (.inr (.inr (.inr fn))))) (hc : vwCl[ci]? = some r) (ht : (zT cy)[t0]? = some (cy t0, .object r.1)) (hbK : b < K) (hbe : g b = .inr (ci, vs)) (hi : zIx i len j) (hdg : decode cc pc = .ok (.aastore, 1))
    (kk : ∀ (H1 : Heap) (locs1 : List Loc), zP D K ad (va_up g n (.inl (cy t0, len, .inr (.inr (.inr (.inr (va_up fn j (some (ad b))))))))) A H1 → va_S A s.heap H1 locs1 → W p l e R s m args below meth c H1 locs1 cells slots Q (F0 m (pc + 1) ls rest)) : W p l e R s m args below meth c H locs cells slots Q (F0 m pc ls (.ref (ad b) :: .int i :: .ref (ad n) :: rest)) := by
  obtain ⟨hx, hb, hml, hown, hts, hK, hA, hlk⟩ := C0
  have hq := zw_get (K := K) (ad := ad) (g := g) hn
  rw [he] at hq
  have hq2 := zw_get (K := K) (ad := ad) (g := g) hbK
  rw [hbe] at hq2
  obtain ⟨h1, rfl⟩ := hi
  refine va_astq hx hb hK hP.1 hP.2 hS n t0 b ci hq ht hq2 hc h1 hdg (fun H1 locs1 h1 h2 h3 => ?_)
  rw [zw_set hn] at h1 h2
  exact kk H1 locs1 ⟨h1, h2⟩ h3
end ZR
