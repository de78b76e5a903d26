/-! ===== the class's whole state, as its calls see it ===== -/
/-- the snapshots: a slot's herd, if it has one -/
def isSn (cy : Nat → ClassId) (K : Nat) (ad : Nat → Nat) (g : Nat → va_E) (sn ns : Nat → Option Nat) (ss : Nat → Nat → Int32) : Prop := (∀ j, j < 2 → sn j = (ns j).map ad ∧ ∀ a, ns j = some a → 221 ≤ a ∧ isH cy K ad g a (ss j)) ∧ ∀ a b, ns 0 = some a → ns 1 = some b → a + 30 ≤ b ∨ b + 30 ≤ a
theorem isSn.kept {cy : Nat → ClassId} {K : Nat} {ad : Nat → Nat} {g g1 : Nat → va_E} {sn ns : Nat → Option Nat} {ss : Nat → Nat → Int32} {P : Nat → Prop} (h : isSn cy K ad g sn ns ss) (hf : zFr P g g1) (hd : ∀ z, 221 ≤ z → ¬ P z) : isSn cy K ad g1 sn ns ss :=
  ⟨fun j hj => ⟨(h.1 j hj).1, fun a ha => ⟨((h.1 j hj).2 a ha).1, ((h.1 j hj).2 a ha).2.kept hf (fun z h1 _ => hd z (Nat.le_trans ((h.1 j hj).2 a ha).1 h1))⟩⟩, h.2⟩
def isT (cy : Nat → ClassId) (K : Nat) (ad : Nat → Nat) (g : Nat → va_E) (st : Nat → Int32) (sv : Nat → Nat → Int32) (nx sz : Nat) (ns : Nat → Option Nat) (ss : Nat → Nat → Int32) (bu : Nat → Int32) (ln : Nat) : Prop :=
  ∃ (sn : Nat → Option Nat) (tl : Nat → Int32) (rs : RS) (x : Nat → Int32), isX cy K ad g 0 sn bu tl (nI ln) ∧ isH cy K ad g 1 st ∧ isHi cy K ad g 31 sv nx sz ∧ isRs cy K ad g 215 rs ∧ isCs cy K ad g 216 x ∧ isSn cy K ad g sn ns ss
/-- the class's names -/
def zCl (z : Nat) : Prop := z < 221 ∨ 221 ≤ z
theorem isT.rc {cy : Nat → ClassId} {K : Nat} {ad : Nat → Nat} {g : Nat → va_E} {st : Nat → Int32} {sv : Nat → Nat → Int32} {nx sz : Nat} {ns : Nat → Option Nat} {ss : Nat → Nat → Int32} {bu : Nat → Int32} {ln : Nat} (h : isT cy K ad g st sv nx sz ns ss bu ln) : ∃ fs, g 0 = .inr (4, fs) := by
  obtain ⟨sn, tl, rs, x, h, -⟩ := h
  exact ⟨_, h.o⟩
theorem isT.n0 {cy : Nat → ClassId} {K : Nat} {ad : Nat → Nat} {g : Nat → va_E} {st : Nat → Int32} {sv : Nat → Nat → Int32} {nx sz : Nat} {ns : Nat → Option Nat} {ss : Nat → Nat → Int32} {bu : Nat → Int32} {ln : Nat} (h : isT cy K ad g st sv nx sz ns ss bu ln) : 0 < K := by
  obtain ⟨sn, tl, rs, x, h, -⟩ := h
  exact h.n0
section ZQR
variable {p : Program} {l : Launch} {e : Env} {R : Room} {s : State} {m : MethodId} {args : Array Value} {below : List Frame} {meth : Method} {c : Code} {H : Heap} {locs : List Loc} {cells slots : Nat} {Q : State → Prop}
variable {D : va_G} {cy : Nat → ClassId} {K : Nat} {ad : Nat → Nat} {g : Nat → va_E} {A : Nat → Prop} {cc : ByteArray} {own : String} {nL pc : Nat} {ls : Array Slot} {rest : List Value}
/-- a call that answers the thing named b9 and changes nothing -/
theorem z_Vr_eq (C0 : zC p s m args c meth cc nL own D cy A) (hP : zP D K ad g A H) (hS : va_S A s.heap H locs) (hsz : ls.size = nL) {st0 As : List Value} {y : MethodName} {bytes : ByteArray} {maxL index ci b k b9 : Nat} {ret : Option FieldType} {fs : List Value} {rm : Room}
    (hM : Met l y (zs y bytes maxL ret) rm (va_Pc (.ref (ad b) :: As) (zIn D cy K ad g H.size)) (va_Qr (fun g1 => g1 = g) (fun g1 a t => a = ad b9 ∧ zOut D cy K ad H.size g1 t) (zA K ad H.size)) 0 0 (zA K ad H.size)) (hL : zLv own index ci y bytes maxL ret k) (hn : b < K) (he : g b = .inr (ci, fs)) (hlen : As.length = k) (hst : st0 = As.reverse ++ .ref (ad b) :: rest) (hrest : (rest.map fun v => v.category).sum ≤ 8) (hR : rm.frames + 1 ≤ R.frames ∧ 8 + (maxL + 11) + rm.locals ≤ R.locals) (hrc : rm.cells = 0) (hrs : rm.slots = 0) (hf : cells ≤ R.cells ∧ slots ≤ R.slots) (hdg : decode cc pc = .ok (.invokevirtual index, 3))
    (kk : ∀ (H1 : Heap) (locs1 : List Loc), zP D K ad g A H1 → va_S A s.heap H1 locs1 → W p l e R s m args below meth c H1 locs1 cells slots Q (F0 m (pc + 3) ls (.ref (ad b9) :: rest))) : W p l e R s m args below meth c H locs cells slots Q (F0 m pc ls st0) := by
  have hA' := zA_in C0.2.2.2.2.2.2.1 hP hS
  refine va_callr (z_runV (As := As) (rest := rest) C0 hP hsz hM hL hn he hlen hst hrest hrc hrs hR hf hdg) hS (fun q _ h => hA' q h) hA' (fun u ra t H1 locs1 ht hvm hp ho _ _ hS1 => ?_)
  obtain ⟨rfl, ho⟩ := ho
  subst hp
  exact kk H1 locs1 (zP_out hA' ht ho) hS1
theorem z_aret (C0 : zC p s m args c meth cc nL own D cy (zA K ad s.heap.size)) (hP : zP D K ad g (zA K ad s.heap.size) H) (hS : va_S (zA K ad s.heap.size) s.heap H locs) {nmC : String} {b9 : Nat} (hr : meth.sig.returnType = some (.object nmC)) {post : (Nat → va_E) → Prop} (hp : post g) (hdg : decode cc pc = .ok (.areturn, 1)) :
    W p l e R s m args below meth c H locs cells slots (MQ below (va_Qr post (fun g1 a t => a = ad b9 ∧ zOut D cy K ad s.heap.size g1 t) (zA K ad s.heap.size)) args s cells slots (zA K ad s.heap.size)) (F0 m pc ls [.ref (ad b9)]) :=
  W.aret (v := .ref (ad b9)) C0.1 C0.2.1 hr (Or.inl ⟨_, rfl⟩) (Or.inr ⟨_, rfl⟩) (fun t ht hW => ⟨⟨g, ad b9, rfl, hp, rfl, zOut_at C0 hP t ht hW⟩, hS.F ht⟩) hS.2.2 hdg C0.2.2.2.2.2.2.2
end ZQR
section ZQR2
variable {p : Program} {l : Launch} {e : Env} {R : Room} {s : State} {m : MethodId} {args : Array Value} {below : List Frame} {meth : Method} {c : Code} {H : Heap} {locs : List Loc} {cells slots : Nat} {Q : State → Prop}
variable {D : va_G} {cy : Nat → ClassId} {K : Nat} {ad : Nat → Nat} {g : Nat → va_E} {A : Nat → Prop} {cc : ByteArray} {own : String} {nL pc : Nat} {ls : Array Slot} {rest : List Value}
theorem z_Sv_eq (C0 : zC p s m args c meth cc nL own D cy A) (hP : zP D K ad g A H) (hS : va_S A s.heap H locs) (hsz : ls.size = nL) {st0 As : List Value} {y : MethodName} {bytes : ByteArray} {maxL index k : Nat} {ret : Option FieldType} {rm : Room}
    (hM : Met l y (zs y bytes maxL ret) rm (va_Pc As (zIn D cy K ad g H.size)) (va_Qv (fun g1 => g1 = g) (zOut D cy K ad H.size) (zA K ad H.size)) 0 0 (zA K ad H.size)) (hL : zLs own index y bytes maxL ret k) (hlen : As.length = k) (hst : st0 = As.reverse ++ rest) (hrest : (rest.map fun v => v.category).sum ≤ 8) (hR : rm.frames + 1 ≤ R.frames ∧ 8 + (maxL + 11) + rm.locals ≤ R.locals) (hrc : rm.cells = 0) (hrs : rm.slots = 0) (hf : cells ≤ R.cells ∧ slots ≤ R.slots) (hdg : decode cc pc = .ok (.invokestatic index, 3))
    (kk : ∀ (H1 : Heap) (locs1 : List Loc), zP D K ad g A H1 → va_S A s.heap H1 locs1 → W p l e R s m args below meth c H1 locs1 cells slots Q (F0 m (pc + 3) ls rest)) : W p l e R s m args below meth c H locs cells slots Q (F0 m pc ls st0) :=
  z_Sv_mo (As := As) (rest := rest) C0 hP hS hsz hM hL hlen hst hrest hR hrc hrs hf hdg (fun g1 H1 locs1 h1 h2 h3 => by
    subst h3
    exact kk H1 locs1 h1 h2)
end ZQR2
