/-! ===== System.arraycopy over the pool ===== -/
section ZCP
variable {p : Program} {l : Launch} {e : Env} {R : Room} {s0 : State} {m : MethodId} {args : Array Value} {below : List Frame} {meth : Method} {c : Code} {H : Heap} {locs : List Loc} {cells slots : Nat} {Q : State → Prop}
variable {D : va_G} {cy : Nat → ClassId} {K : Nat} {ad : Nat → Nat} {g g0 : Nat → va_E} {A P : Nat → Prop} {cc : ByteArray} {own : String} {nL pc9 : Nat} {ls : Array Slot} {rest : List Value}
theorem z_copy (C0 : zC p s0 m args c meth cc nL own D cy A) (hP : zP D K ad g A H) (hS : va_S A s0.heap H locs) (hsz : ls.size = nL) {a b n0 n1 N index : Nat} {f fg : Nat → Int32} {nn : Int32} (ha : a < K) (hb9 : b < K) (hea : g a = .inl (cy 1, n0, .inl f)) (heb : g b = .inl (cy 1, n1, .inl fg)) (hn : nn = nI N) (h4 : N ≤ n0) (h5 : N ≤ n1) (hN : N < 2 ^ 31)
    (hlink : Cond.methodLink own index arraycopyName ∈ zW) (hnat : Cond.native arraycopyName ∈ zW) (hstat : Cond.static arraycopyName ∈ zW) (hini : Cond.initialized "java/lang/System" ∈ zW) (hRf : 1 ≤ R.frames) (hRl : 40 ≤ R.locals) (hrest : (rest.map fun v => v.category).sum ≤ 8) (hdg : decode cc pc9 = .ok (.invokestatic index, 3))
    (kk : ∀ (H1 : Heap) (locs1 : List Loc), zP D K ad (va_up g b (.inl (cy 1, n1, .inl (va_cpy f fg 0 0 N)))) A H1 → va_S A s0.heap H1 locs1 → W p l e R s0 m args below meth c H1 locs1 cells slots Q (F0 m (pc9 + 3) ls rest)) : W p l e R s0 m args below meth c H locs cells slots Q (F0 m pc9 ls (.int nn :: .int 0 :: .ref (ad b) :: .int 0 :: .ref (ad a) :: rest)) := by
  obtain ⟨hx, hb, hml, hown, hts, hK, hA, hlk⟩ := C0
  have hqa := zw_get (K := K) (ad := ad) (g := g) ha
  rw [hea] at hqa
  have hqb := zw_get (K := K) (ad := ad) (g := g) hb9
  rw [heb] at hqb
  have z0 : (0 : Int32).toNatClampNeg = 0 := by decide
  have zn : nn.toNatClampNeg = N := by rw [hn]; exact nI_clamp hN
  refine va_copyi hx hb (hml.trans hsz.symm) hown (hts _ hlink) (hts _ hnat) (hts _ hstat) (hts _ hini) hK hP.1 hP.2 hS a b 1 1 hqa hqb rfl rfl rfl (by decide) (by decide) (by rw [hn]; exact nI_pos hN) (by rw [z0, zn]; omega) (by rw [z0, zn]; omega) (fun i hi => rfl) hRf ?_ hdg (fun H1 locs1 h1 h2 h3 => ?_)
  · have : nativeFrameWords "java/lang/System" "arraycopy" 5 + 11 ≤ 32 := by decide +kernel
    omega
  · rw [z0, zn, zw_set hb9] at h1 h2
    exact kk H1 locs1 ⟨h1, h2⟩ h3
theorem z_copyC_kn (C0 : zC p s0 m args c meth cc nL own D cy A) (hP : zP D K ad g A H) (hS : va_S A s0.heap H locs) (hsz : ls.size = nL) {n a n0 : Nat} {f kn lo pa : Nat → Int32} {pc hu sl nn : Int32} {index : Nat} (h : isC cy K ad g n kn lo pa pc hu sl) (hFr : zFr P g0 g) (hp : P (n + 1)) (ha : a < K) (hea : g a = .inl (cy 1, n0, .inl f)) (hn : nn = nI 6) (h4 : 6 ≤ n0)
    (hlink : Cond.methodLink own index arraycopyName ∈ zW) (hRf : 1 ≤ R.frames) (hRl : 40 ≤ R.locals) (hrest : (rest.map fun v => v.category).sum ≤ 8) (hdg : decode cc pc9 = .ok (.invokestatic index, 3))
    (kk : ∀ (g1 : Nat → va_E) (H1 : Heap) (locs1 : List Loc), zP D K ad g1 A H1 → va_S A s0.heap H1 locs1 → isC cy K ad g1 n (va_cpy f kn 0 0 6) lo pa pc hu sl → zFr P g0 g1 → zFr (zOne (n + 1)) g g1 → W p l e R s0 m args below meth c H1 locs1 cells slots Q (F0 m (pc9 + 3) ls rest)) : W p l e R s0 m args below meth c H locs cells slots Q (F0 m pc9 ls (.int nn :: .int 0 :: .ref (ad (n + 1)) :: .int 0 :: .ref (ad a) :: rest)) :=
  z_copy C0 hP hS hsz ha h.n1 hea h.a_kn hn h4 (by decide) (by decide) hlink q253 q252 q17 hRf hRl hrest hdg (fun H1 locs1 h1 h2 => kk _ H1 locs1 h1 h2 ⟨h.1, (va_up_ne _ _ (by omega)).trans h.o, va_up_self _ _ _, (va_up_ne _ _ (by omega)).trans h.a_lo, (va_up_ne _ _ (by omega)).trans h.a_pa⟩ (hFr.up hp) (zFr.up zFr.rf rfl))
theorem z_copyC_lo (C0 : zC p s0 m args c meth cc nL own D cy A) (hP : zP D K ad g A H) (hS : va_S A s0.heap H locs) (hsz : ls.size = nL) {n a n0 : Nat} {f kn lo pa : Nat → Int32} {pc hu sl nn : Int32} {index : Nat} (h : isC cy K ad g n kn lo pa pc hu sl) (hFr : zFr P g0 g) (hp : P (n + 2)) (ha : a < K) (hea : g a = .inl (cy 1, n0, .inl f)) (hn : nn = nI 6) (h4 : 6 ≤ n0)
    (hlink : Cond.methodLink own index arraycopyName ∈ zW) (hRf : 1 ≤ R.frames) (hRl : 40 ≤ R.locals) (hrest : (rest.map fun v => v.category).sum ≤ 8) (hdg : decode cc pc9 = .ok (.invokestatic index, 3))
    (kk : ∀ (g1 : Nat → va_E) (H1 : Heap) (locs1 : List Loc), zP D K ad g1 A H1 → va_S A s0.heap H1 locs1 → isC cy K ad g1 n kn (va_cpy f lo 0 0 6) pa pc hu sl → zFr P g0 g1 → zFr (zOne (n + 2)) g g1 → W p l e R s0 m args below meth c H1 locs1 cells slots Q (F0 m (pc9 + 3) ls rest)) : W p l e R s0 m args below meth c H locs cells slots Q (F0 m pc9 ls (.int nn :: .int 0 :: .ref (ad (n + 2)) :: .int 0 :: .ref (ad a) :: rest)) :=
  z_copy C0 hP hS hsz ha h.n2 hea h.a_lo hn h4 (by decide) (by decide) hlink q253 q252 q17 hRf hRl hrest hdg (fun H1 locs1 h1 h2 => kk _ H1 locs1 h1 h2 ⟨h.1, (va_up_ne _ _ (by omega)).trans h.o, (va_up_ne _ _ (by omega)).trans h.a_kn, va_up_self _ _ _, (va_up_ne _ _ (by omega)).trans h.a_pa⟩ (hFr.up hp) (zFr.up zFr.rf rfl))
theorem z_copyC_pa (C0 : zC p s0 m args c meth cc nL own D cy A) (hP : zP D K ad g A H) (hS : va_S A s0.heap H locs) (hsz : ls.size = nL) {n a n0 : Nat} {f kn lo pa : Nat → Int32} {pc hu sl nn : Int32} {index : Nat} (h : isC cy K ad g n kn lo pa pc hu sl) (hFr : zFr P g0 g) (hp : P (n + 3)) (ha : a < K) (hea : g a = .inl (cy 1, n0, .inl f)) (hn : nn = nI 16) (h4 : 16 ≤ n0)
    (hlink : Cond.methodLink own index arraycopyName ∈ zW) (hRf : 1 ≤ R.frames) (hRl : 40 ≤ R.locals) (hrest : (rest.map fun v => v.category).sum ≤ 8) (hdg : decode cc pc9 = .ok (.invokestatic index, 3))
    (kk : ∀ (g1 : Nat → va_E) (H1 : Heap) (locs1 : List Loc), zP D K ad g1 A H1 → va_S A s0.heap H1 locs1 → isC cy K ad g1 n kn lo (va_cpy f pa 0 0 16) pc hu sl → zFr P g0 g1 → zFr (zOne (n + 3)) g g1 → W p l e R s0 m args below meth c H1 locs1 cells slots Q (F0 m (pc9 + 3) ls rest)) : W p l e R s0 m args below meth c H locs cells slots Q (F0 m pc9 ls (.int nn :: .int 0 :: .ref (ad (n + 3)) :: .int 0 :: .ref (ad a) :: rest)) :=
  z_copy C0 hP hS hsz ha h.n3 hea h.a_pa hn h4 (by decide) (by decide) hlink q253 q252 q17 hRf hRl hrest hdg (fun H1 locs1 h1 h2 => kk _ H1 locs1 h1 h2 ⟨h.1, (va_up_ne _ _ (by omega)).trans h.o, (va_up_ne _ _ (by omega)).trans h.a_kn, (va_up_ne _ _ (by omega)).trans h.a_lo, va_up_self _ _ _⟩ (hFr.up hp) (zFr.up zFr.rf rfl))
end ZCP
section ZMM
variable {l : Launch} {y : MethodName} {ws : List Cond} {rm : Room} {Pc : Array Value → State → Prop} {Qc Qc' : Array Value → State → Outcome → State → Prop} {mc ms : Nat} {free : Addr → Prop}
theorem z_mono (h : Met l y ws rm Pc Qc mc ms free) (hq : ∀ a s o t, Pc a s → Qc a s o t → Qc' a s o t) : Met l y ws rm Pc Qc' mc ms free := by
  intro p e ha hc hk s m args below hf happ hP hK
  obtain ⟨n, o, h1, h2, h3, hQ, h4⟩ := h p e ha hc hk s m args below hf happ hP hK
  exact ⟨n, o, h1, h2, h3, hq _ _ _ _ hP hQ, h4⟩
theorem z_postI {post post' : Int32 → (Nat → va_E) → Prop} {B : (Nat → va_E) → State → Prop} {A : Nat → Prop} (h : Met l y ws rm Pc (va_Qi post B A) mc ms free) (hq : ∀ r g1, post r g1 → post' r g1) : Met l y ws rm Pc (va_Qi post' B A) mc ms free :=
  z_mono h (fun a s o t _ h => by
    obtain ⟨⟨r, u, h1, h2, h3⟩, h4⟩ := h
    exact ⟨⟨r, u, h1, hq r u h2, h3⟩, h4⟩)
theorem z_postV {post post' : (Nat → va_E) → Prop} {B : (Nat → va_E) → State → Prop} {A : Nat → Prop} (h : Met l y ws rm Pc (va_Qv post B A) mc ms free) (hq : ∀ g1, post g1 → post' g1) : Met l y ws rm Pc (va_Qv post' B A) mc ms free :=
  z_mono h (fun a s o t _ h => by
    obtain ⟨⟨u, h1, h2, h3⟩, h4⟩ := h
    exact ⟨⟨u, h1, hq u h2, h3⟩, h4⟩)
theorem z_postL {post post' : Int64 → (Nat → va_E) → Prop} {B : (Nat → va_E) → State → Prop} {A : Nat → Prop} (h : Met l y ws rm Pc (va_Ql post B A) mc ms free) (hq : ∀ r g1, post r g1 → post' r g1) : Met l y ws rm Pc (va_Ql post' B A) mc ms free :=
  z_mono h (fun a s o t _ h => by
    obtain ⟨⟨r, u, h1, h2, h3⟩, h4⟩ := h
    exact ⟨⟨r, u, h1, hq r u h2, h3⟩, h4⟩)
end ZMM
theorem zz_ring1 (a b c : Int32) : a + (b + c - b) = a + c := by grind
