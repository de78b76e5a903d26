/-! ===== a call that reads the script; calls that make names ===== -/
def zInS (D : va_G) (cy : Nat → ClassId) (K : Nat) (ad : Nat → Nat) (g : Nat → va_E) (sz b L : Nat) (xs : Nat → Int32) (U : State) : Prop := zIn D cy K ad g sz U ∧ va_X b L xs U U.heap ∧ b < sz ∧ ¬ zA K ad sz b
theorem zInS_blind {D : va_G} {cy : Nat → ClassId} {K : Nat} {ad : Nat → Nat} {g : Nat → va_E} {sz b L : Nat} {xs : Nat → Int32} {av : List Value} : FrameBlind (va_Pc av (zInS D cy K ad g sz b L xs)) := fun a U g' mk q => by
  obtain ⟨q0, q1, h1, h2, h3⟩ := q
  exact ⟨q0, (zIn_blind a U g' mk ⟨q0, q1⟩).2, va_X.moved (u := U) (U := U.calling g' mk a) (Vm.Alike.refl U.vm) h1, h2, h3⟩
section ZKN
variable {p : Program} {l : Launch} {e : Env} {R : Room} {s : State} {m : MethodId} {args : Array Value} {below : List Frame} {meth : Method} {c : Code} {H : Heap} {locs : List Loc} {cells slots : Nat} {Q : State → Prop}
variable {D : va_G} {cy : Nat → ClassId} {K K1 : Nat} {ad ad1 : Nat → Nat} {g g1 : Nat → va_E} {A : Nat → Prop} {cc : ByteArray} {own : String} {nL pc : Nat} {ls : Array Slot} {rest : List Value}
theorem z_runVN (C0 : zC p s m args c meth cc nL own D cy A) (hN : zN s) (hP : zP D K ad g A H) (hsz : ls.size = nL) {st0 As : List Value} {y : MethodName} {bytes : ByteArray} {maxL index ci b k mc ms : Nat} {ret : Option FieldType} {fs : List Value} {rm : Room} {Qc : Array Value → State → Outcome → State → Prop} {free : Addr → Prop}
    (hM : Met l y (zs y bytes maxL ret) rm (va_Pc (.ref (ad b) :: As) (zInN D cy K ad g H.size)) Qc mc ms free) (hL : zLv own index ci y bytes maxL ret k) (hn : b < K) (he : g b = .inr (ci, fs)) (hlen : As.length = k) (hst : st0 = As.reverse ++ .ref (ad b) :: rest) (hrest : (rest.map fun v => v.category).sum ≤ 8) (hrc : rm.cells = mc) (hrs : rm.slots = ms) (hR : rm.frames + 1 ≤ R.frames ∧ 8 + (maxL + 11) + rm.locals ≤ R.locals) (hf : cells + mc ≤ R.cells ∧ slots + ms ≤ R.slots) (hdg : decode cc pc = .ok (.invokevirtual index, 3)) :
    va_Run p l e R s m args below meth c H locs cells slots mc ms (F0 m pc ls st0) rest (Qc (Value.ref (ad b) :: As).toArray) free := by
  obtain ⟨Cn, T, N, hc, hG, hd⟩ := hL
  have C1 := C0
  obtain ⟨hx, hb, hml, hown, hts, hK, hA, hlk⟩ := C0
  have hq := zw_get (K := K) (ad := ad) (g := g) hn
  rw [he] at hq
  exact va_runV (As := As) (rest := rest) (b := ad b) ⟨hx, hb, hml, hown, hts⟩ hM (cwV k hts hG rfl hrc hrs hd hR) ⟨zInN_blind, va_recv hK hP.1 (ci := ci) (q0 := b) hc hq, zInN_at C1 hN hP⟩ rfl hlen hsz hst (lv_room hrest) hdg hf
theorem z_calliN (C0 : zC p s m args c meth cc nL own D cy A) (hP : zP D K ad g A H) (hS : va_S A s.heap H locs) {st0 : List Value} {mc ms : Nat} {av : Array Value} {post : Int32 → zU → Prop}
    (hr : va_Run p l e R s m args below meth c H locs cells slots mc ms (F0 m pc ls st0) rest (va_Qi post (zOutN D cy K ad H.size) (zA K ad H.size) av) (zA K ad H.size))
    (kk : ∀ (r : Int32) (K1 : Nat) (ad1 : Nat → Nat) (g1 : Nat → va_E) (H1 : Heap) (locs1 : List Loc), zP D K1 ad1 g1 A H1 → va_S A s.heap H1 locs1 → post r (K1, ad1, g1) → W p l e R s m args below meth c H1 locs1 (cells + mc) (slots + ms) Q (F0 m (pc + 3) ls (.int r :: rest))) : W p l e R s m args below meth c H locs cells slots Q (F0 m pc ls st0) := by
  have hA' := zA_in C0.2.2.2.2.2.2.1 hP hS
  refine va_calli hr hS (fun q _ h => hA' q h) hA' (fun r u t H1 locs1 ht hvm hp ho _ _ hS1 => ?_)
  obtain ⟨h1, -, h2⟩ := ho
  rw [ht] at h1
  exact kk r u.1 u.2.1 u.2.2 H1 locs1 ⟨h1, h2.weaken (fun k q _ h => hA' q.1 h)⟩ hS1 hp
theorem zInS_at (C0 : zC p s m args c meth cc nL own D cy A) {b L : Nat} {xs : Nat → Int32} (hX : va_X b L xs s s.heap) (hbl : b < s.heap.size) (hbA : ¬ A b) (hP : zP D K ad g A H) (hS : va_S A s.heap H locs) {av : List Value} : ∀ U : State, U.heap = H → s.WarmedH U.vm → va_Pc av (zInS D cy K ad g H.size b L xs) av.toArray U := by
  intro U hU hW
  refine ⟨rfl, (zIn_at C0 hP (av := av) U hU hW).2, ?_, Nat.lt_of_lt_of_le hbl hS.1, fun q => hbA (zA_in C0.2.2.2.2.2.2.1 hP hS b q)⟩
  rw [hU]
  exact (hX.kept (hS.2.1 b hbl hbA)).moved hW.alike
theorem z_SSi (C0 : zC p s m args c meth cc nL own D cy A) {b L : Nat} {xs : Nat → Int32} (hX : va_X b L xs s s.heap) (hbl : b < s.heap.size) (hbA : ¬ A b) (hP : zP D K ad g A H) (hS : va_S A s.heap H locs) (hsz : ls.size = nL) {st0 As : List Value} {y : MethodName} {bytes : ByteArray} {maxL index k : Nat} {ret : Option FieldType} {rm : Room} {X : Int32}
    (hM : Met l y (zs y bytes maxL ret) rm (va_Pc As (zInS D cy K ad g H.size b L xs)) (va_Qi (fun r g1 => g1 = g ∧ r = X) (zOut D cy K ad H.size) (zA K ad H.size)) 0 0 (zA K ad H.size)) (hL : zLs own index y bytes maxL ret k) (hlen : As.length = k) (hst : st0 = As.reverse ++ rest) (hrest : (rest.map fun v => v.category).sum ≤ 8) (hR : rm.frames + 1 ≤ R.frames ∧ 8 + (maxL + 11) + rm.locals ≤ R.locals) (hrc : rm.cells = 0) (hrs : rm.slots = 0) (hf : cells ≤ R.cells ∧ slots ≤ R.slots) (hdg : decode cc pc = .ok (.invokestatic index, 3))
    (kk : ∀ (H1 : Heap) (locs1 : List Loc), zP D K ad g A H1 → va_S A s.heap H1 locs1 → W p l e R s m args below meth c H1 locs1 cells slots Q (F0 m (pc + 3) ls (.int X :: rest))) : W p l e R s m args below meth c H locs cells slots Q (F0 m pc ls st0) := by
  have C1 := C0
  obtain ⟨hx, hb, hml, hown, hts, hK, hA, hlk⟩ := C0
  exact z_calli C1 hP hS (va_runS (As := As) (rest := rest) ⟨hx, hb, hml, hown, hts⟩ hM (va_cwS k hts hL.1 rfl hrc hrs hL.2 hR) ⟨zInS_blind, zInS_at C1 hX hbl hbA hP hS⟩ rfl hlen hsz hst (lv_room hrest) hdg hf) (fun r g1 H1 locs1 h1 h2 h3 => by
    obtain ⟨rfl, rfl⟩ := h3
    exact kk H1 locs1 h1 h2)
end ZKN
theorem z_metS {l : Launch} {D : va_G} {cy : Nat → ClassId} {K : Nat} {ad : Nat → Nat} {g : Nat → va_E} {y : MethodName} {bytes : ByteArray} {maxL : Nat} {ret : Option FieldType} {rm : Room} {av : List Value} {sz mc ms b L : Nat} {xs : Nat → Int32} {Qc : Array Value → State → Outcome → State → Prop} {free : Addr → Prop} (hy : plainName y.cls = true) (hlen : (lg_sl av).length ≤ maxL)
    (body : ∀ (p : Program) (e : Env) (s : State) (m : MethodId) (below : List Frame) (meth : Method) (c : Code) (ls : Array Slot), sz = s.heap.size → lv_has ls maxL (lv_args 0 av) → zC p s m av.toArray c meth bytes maxL y.cls D cy (zA K ad s.heap.size) → va_X b L xs s s.heap → b < s.heap.size → ¬ zA K ad s.heap.size b → meth.sig.returnType = ret → zP D K ad g (zA K ad s.heap.size) s.heap → va_S (zA K ad s.heap.size) s.heap s.heap [] →
      W p l e rm s m av.toArray below meth c s.heap [] 0 0 (MQ below Qc av.toArray s mc ms free) (F0 m 0 ls [])) : Met l y (zs y bytes maxL ret) rm (va_Pc av (zInS D cy K ad g sz b L xs)) Qc mc ms free := by
  refine Met.ofW (cc := bytes) (maxL := maxL) (ret := ret) hy rfl ?_
  intro p e s m args below meth c s₁ B hml hv
  obtain ⟨rfl, ⟨hsz, hP, hK, hD0⟩, hX, hbl, hbA⟩ := hv
  have hts := atoms_spec (ws := zs y bytes maxL ret) B.pre
  have hown : s.vm.findClass y.cls = some m.cls := findClass_of_methodNamed B.named
  have hl := lv_entry av (n := maxL) hlen
  rw [lg_entry_eq]
  have hD : va_D (zA K ad s.heap.size) (zw K ad g) := zw_D hD0 (fun n hn _ => Or.inl ⟨n, hn, rfl⟩)
  subst hsz
  exact body p e s m below meth c _ rfl hl ⟨B.exec, B.bytes, hml, hown, fun w h => hts w (List.mem_cons_of_mem _ h), hK, fun q h => Or.inr h, B.notSynchronized⟩ hX hbl hbA B.returns ⟨hP, hD⟩ va_S.rf
theorem m_L_cell (l : Launch) {D : va_G} {cy : Nat → ClassId} {K : Nat} {ad : Nat → Nat} {g : Nat → va_E} (sz : Nat) {b L kz : Nat} {xs : Nat → Int32} (hk : kz < L) (hL : L < 2 ^ 31) : Met l yL_cell (zs yL_cell cL_cell 2 (some .int)) ({ frames := 0, cells := 0, slots := 0, locals := 0 } : Room) (va_Pc [.ref b, .int (nI kz)] (zInS D cy K ad g sz b L xs)) (va_Qi (fun r g1 => g1 = g ∧ r = xs kz) (zOut D cy K ad sz) (zA K ad sz)) 0 0 (zA K ad sz) := by
  refine z_metS (by decide) (Nat.le_of_ble_eq_true rfl) (fun p e s m below meth c ls hsz hl C0 hX hbl hbA hr hP hS => ?_)
  subst hsz
  have hl : lv_has ls 2 [(0, .ref b), (1, .int (nI kz))] := hl
  have hx := C0.1; have hb := C0.2.1
  refine lv_iload_n hx hb dL_cell_0 rfl (lv_at hl 1 rfl) ?_
  refine lv_aload_n hx hb dL_cell_1 rfl (lv_at hl 0 rfl) ?_
  refine va_slen hx hb hX hbl hbA hS dL_cell_2 ?_
  refine lv_icmp_ge (tgt := 12) hx hb dL_cell_3 (by decide) (fun q => absurd q (nI_ge hk hL)) (fun q => ?_)
  refine lv_aload_n hx hb dL_cell_6 rfl (lv_at hl 0 rfl) ?_
  refine lv_iload_n hx hb dL_cell_7 rfl (lv_at hl 1 rfl) ?_
  refine va_sld hx hb hX hbl hbA hS (vp_in_nI hk hL) dL_cell_8 ?_
  refine lv_goto (tgt := 20) hx hb dL_cell_9 (by decide) ?_
  exact z_iret C0 hP hS hr ⟨rfl, by rw [nI_clamp (by omega)]⟩ dL_cell_20
