-- ===== PART A: goes FIRST, ahead of the names: the tables' words, and 'selects' of the private methods out of them =====
/-- a private method of a class that the tables say can be made, by its rows of tables_1 -/
def lw_okq (q : MethodName × Nat) : Prop := (q.1.cls ≠ "java/lang/invoke/MethodHandle" ∧ q.1.cls ≠ "java/lang/invoke/VarHandle") ∧ Cond.instantiable q.1.cls q.2 ∈ tables_1 ∧ Cond.privateMethod q.1 ∈ tables_1 ∧ Cond.instanceMethod q.1 ∈ tables_1
theorem lw_p0 : lw_okq (⟨"java/lang/Throwable", "fillInStackTrace", "(I)Ljava/lang/Throwable;"⟩, 6) := ⟨⟨by decide +kernel, by decide +kernel⟩, List.mem_of_getElem? (i := 210) (by decide +kernel), List.mem_of_getElem? (i := 208) (by decide +kernel), List.mem_of_getElem? (i := 209) (by decide +kernel)⟩
theorem lw_p1 : lw_okq (⟨"HerdCords", "cordAt", "(I)LHerdCords$Cord;"⟩, 8) := ⟨⟨by decide +kernel, by decide +kernel⟩, List.mem_of_getElem? (i := 16) (by decide +kernel), List.mem_of_getElem? (i := 356) (by decide +kernel), List.mem_of_getElem? (i := 357) (by decide +kernel)⟩
theorem lw_p2 : lw_okq (⟨"HerdCords$Cord", "loopsFor", "(II)I"⟩, 6) := ⟨⟨by decide +kernel, by decide +kernel⟩, List.mem_of_getElem? (i := 31) (by decide +kernel), List.mem_of_getElem? (i := 411) (by decide +kernel), List.mem_of_getElem? (i := 412) (by decide +kernel)⟩
theorem lw_p3 : lw_okq (⟨"HerdCords$Herd", "countTied", "(LHerdCords$Cord;II)I"⟩, 7) := ⟨⟨by decide +kernel, by decide +kernel⟩, List.mem_of_getElem? (i := 24) (by decide +kernel), List.mem_of_getElem? (i := 443) (by decide +kernel), List.mem_of_getElem? (i := 444) (by decide +kernel)⟩
def lw_privs_1 : List (MethodName × Nat) := [(⟨"java/lang/Throwable", "fillInStackTrace", "(I)Ljava/lang/Throwable;"⟩, 6), (⟨"HerdCords", "cordAt", "(I)LHerdCords$Cord;"⟩, 8), (⟨"HerdCords$Cord", "loopsFor", "(II)I"⟩, 6), (⟨"HerdCords$Herd", "countTied", "(LHerdCords$Cord;II)I"⟩, 7)]
theorem lw_r1 : ∀ q ∈ lw_privs_1, lw_okq q := List.forall_mem_cons.mpr ⟨lw_p0, List.forall_mem_cons.mpr ⟨lw_p1, List.forall_mem_cons.mpr ⟨lw_p2, List.forall_mem_cons.mpr ⟨lw_p3, fun _ h => absurd h List.not_mem_nil⟩⟩⟩⟩
def lw_privs : List (MethodName × Nat) := lw_privs_1
def lw_tbl : List Cond := k2_sels lw_privs ++ tables_1
theorem lw_privs_ok : ∀ q ∈ lw_privs, lw_okq q := lw_r1
/-- the streams that the claim lets the run draw from -/
abbrev lw_cs : List Choice := [Jvm.Choice.named "NaN.bits"]
theorem lw_bits : nanBits ∈ lw_cs := by first | decide | exact List.mem_cons_self | simp [lw_cs, nanBits]

/-! ===== BEGIN words of one list among another's, by their places ===== -/
theorem goodIn_r {big : List Cond} (ws : List Cond) (ps : List Nat) (hp : ws = ps.filterMap (fun i => big[i]?)) (h : ws.all goodWord = true) : GoodIn big ws := by
  intro w hw
  have h1 := List.all_eq_true.mp h w hw
  rw [hp] at hw
  obtain ⟨i, -, hi⟩ := List.mem_filterMap.mp hw
  have hm : w ∈ big := by first | exact List.mem_of_getElem? hi | exact List.getElem?_mem hi
  exact ⟨hm, good_of_word h1⟩
theorem goodIn_app {big a b : List Cond} (ha : GoodIn big a) (hb : GoodIn big b) : GoodIn big (a ++ b) := fun w h => (List.mem_append.mp h).elim (ha w) (hb w)
theorem goodIn_ca {big a b : List Cond} {c : Cond} (ha : GoodIn big (c :: a)) (hb : GoodIn big b) : GoodIn big (c :: (a ++ b)) := fun w h => (List.mem_cons.mp h).elim (fun e => ha w (List.mem_cons.mpr (Or.inl e))) (fun h => (List.mem_append.mp h).elim (fun h => ha w (List.mem_cons.mpr (Or.inr h))) (hb w))
theorem goodIn_sub {big ws : List Cond} (hm : ∀ w ∈ ws, w ∈ big) (h : ws.all goodWord = true) : GoodIn big ws := fun w hw => ⟨hm w hw, good_of_word (List.all_eq_true.mp h w hw)⟩
/-! ===== END ===== -/

/-! ===== BEGIN exceptions that leave a method, and their catching by the caller (launches without stack traces) ===== -/
section VXA
/-! The laws vx_back, vx_callV, vx_callS, vx_callSW, vx_throw0, vx_throwS follow proofs of the library, with one case more: JvmDerived/Free/Laws.lean (Back.of_free), Shelf42/LK1.lean (callV, callS), Shelf/KitTraced.lean (throwNew0V, throwNewS). -/
/-- where a method has thrown q: the class by its name, the cell, what was written, the world -/
def vx_T (XC : String → State → State → Prop) (st : State) (q : Addr) (t : State) (mc ms : Nat) (free : Addr → Prop) : Prop :=
  ∃ (E : String) (ce : Cell) (L : List Loc), XC E st t ∧ t.heap[q]? = some ce ∧ ce.vm = .none ∧ st.vm.findClass E = some ce.cls ∧ st.WarmedH t.vm ∧ st.sameButNew ({ t with vm := st.vm } : State) L mc ms ∧ ∀ z ∈ L, free z.base
def vx_Q (Qc : Array Value → State → Outcome → State → Prop) (XC : String → State → State → Prop) (mc ms : Nat) (free : Addr → Prop) : Array Value → State → Outcome → State → Prop := fun a st o t =>
  (Qc a st o t ∧ ∃ L, FrameEnd st o t L mc ms ∧ ∀ q ∈ L, free q.base) ∨ ∃ q, o = .threw q ∧ vx_T XC st q t mc ms free
/-- a callee that returns or throws -/
def vx_Met (l : Launch) (y : MethodName) (ws : List Cond) (rm : Room) (Pc : Array Value → State → Prop) (Qc : Array Value → State → Outcome → State → Prop) (XC : String → State → State → Prop) (mc ms : Nat) (free : Addr → Prop) : Prop :=
  MetFree l y (headSpec ws rm) Pc (fun _ _ _ _ _ => True) (vx_Q Qc XC mc ms free)
def vx_Post (XC : String → State → State → Prop) (mc ms : Nat) (free : Addr → Prop) : Pt → Array Value → Addr → Pt → Prop := fun A a q B =>
  ∃ (g : JFrame) (mk : MethodId) (t : State) (L : List Loc) (E : String) (ce : Cell), B.U.heap = t.heap ∧ B.U.vm = t.vm ∧ XC E (A.U.calling g mk a) t ∧ t.heap[q]? = some ce ∧ ce.vm = .none ∧ A.U.vm.findClass E = some ce.cls ∧ B.locs = A.locs ++ L ∧ (∀ z ∈ L, free z.base) ∧ B.cells = A.cells + mc ∧ B.slots = A.slots + ms
def vx_Back (l : Launch) (R : Room) (p : Program) (e : Env) (below : List Frame) (s : State) (sargs : Array Value) (y : MethodName) (len W9 : Nat)
    (Pre : Pt → Array Value → Prop) (Post : Pt → Array Value → Option Value → Pt → Prop) (PostX : Pt → Array Value → Addr → Pt → Prop) : Prop :=
  ∀ (m : MethodId) (meth : Method) (c : Code) (A : Pt) (g : JFrame) (ig : Instr) (mk : MethodId) (a : Array Value),
    Stand p l e R s m sargs below meth c A.U A.locs A.cells A.slots → g.method = m → g.locals.size = c.maxLocals → decode c.code g.pc = .ok (ig, len) →
    2 * g.monitorRoom + (g.stack.map fun v => v.category).sum ≤ W9 → A.U.methodNamed? y = some mk → Pre A a →
    (∃ (v : Option Value) (B : Pt), Stand p l e R s m sargs below meth c B.U B.locs B.cells B.slots ∧ Post A a v B ∧
      Steps p.tables e below (doInvoke e (A.U.setTop g) [] mk a).1 (B.U.setTop { g with pc := g.pc + len, stack := v.toList ++ g.stack })) ∨
    (∃ (q : Addr) (B : Pt), Stand p l e R s m sargs below meth c B.U B.locs B.cells B.slots ∧ PostX A a q B ∧
      Steps p.tables e below (doInvoke e (A.U.setTop g) [] mk a).1 ((B.U.setTop g).pushFrame (.throwing q)))
section Payer
variable {l : Launch} {R : Room} {p : Program} {e : Env} {below : List Frame} {s : State} {sargs : Array Value} {y : MethodName} {len W9 : Nat}
theorem vx_back {ws : List Cond} {rm : Room} {Pc : Array Value → State → Prop} {Qc : Array Value → State → Outcome → State → Prop} {XC : String → State → State → Prop} {mc ms : Nat} {free : Addr → Prop} {bytes : ByteArray} {maxL : Nat} {ret : Option FieldType}
    (hM : vx_Met l y ws rm Pc Qc XC mc ms free) (hblind : FrameBlind Pc) (hrc : rm.cells = mc) (hrs : rm.slots = ms)
    (hframes : rm.frames + 1 ≤ R.frames) (hlocals : W9 + (maxL + 11) + rm.locals ≤ R.locals)
    (hws : ∀ w ∈ ws, ∀ a' U, s.WarmedH U.vm → w.before a' U = true) (hcode : Cond.code y bytes maxL ret ∈ ws) (hinit : ∀ a' U, s.WarmedH U.vm → (Cond.initialized y.cls).before a' U = true) :
    vx_Back l R p e below s sargs y len W9 (PreOf R mc ms Pc) (PostOf Qc mc ms free) (vx_Post XC mc ms free) := by
  intro m meth c A g ig mk a X hg hsize hdg hW hn hp
  have h1 : (headSpec ws rm).pre.before a A.U = true := atoms_intro fun w hw => hws w hw _ _ X.warmed
  have h2 : (Cond.code y bytes maxL ret).before a A.U = true := hws _ hcode _ _ X.warmed
  have h3 : (Cond.initialized y.cls).before a A.U = true := hinit _ _ X.warmed
  have h4 : A.cells + (headSpec ws rm).room.cells ≤ R.cells := by rw [show (headSpec ws rm).room.cells = mc from hrc]; exact hp.1
  have h5 : A.slots + (headSpec ws rm).room.slots ≤ R.slots := by rw [show (headSpec ws rm).room.slots = ms from hrs]; exact hp.2.1
  have hPc : Pc a (A.U.calling g mk a) := hblind _ _ _ _ hp.2.2
  obtain ⟨U, Ls, c0, s0⟩ := A
  dsimp only [Pt.U, Pt.locs, Pt.cells, Pt.slots] at h1 h2 h3 h4 h5 X hn hPc ⊢
  obtain ⟨methY, cY, hmY, hcY, -, hlY, -, -, -, -⟩ := Cond.code_spec hn h2
  obtain ⟨kY, hkY, -⟩ := className_of_methodNamed hn
  have hinitY : kY.init = .initialized := Cond.initialized_spec (findClass_of_methodNamed hn) hkY h3
  have h : At U g.method c below := by rw [hg]; exact X.here
  have hlocals9 : W9 + (maxL + 11) + (headSpec ws rm).room.locals ≤ R.locals := hlocals
  have happ : (headSpec ws rm).appliesLoose y e.platform (U.calling g mk a) = true :=
    Spec.appliesLoose_calling (g := g) h hdg hn hkY hinitY
      (X.room_calling (g := g) (R' := (headSpec ws rm).room) hsize hmY hcY hframes (by rw [hlY]; omega) h4 h5) h1
  obtain ⟨mid, hmid⟩ := h.above
  have hfr : (U.setTop g).frames = (.java g :: mid) ++ below := by rw [State.frames_setTop' g h.top, hmid]; rfl
  obtain ⟨o, s₂, hsteps, -, hend, hq⟩ := Steps.callFree hM p X.admits X.cas X.clock (acts := []) hfr happ hPc trivial
  have hq' : vx_Q Qc XC mc ms free a (U.calling g mk a) o s₂ := hq
  rw [State.frames_setTop' g h.top] at hend
  obtain ⟨g₀, hg0⟩ := Option.isSome_iff_exists.mp h.top
  obtain ⟨r, hr⟩ := State.topJava?_eq_some.mp hg0
  have hr' : (({ U with heap := s₂.heap, slotsUsed := s₂.slotsUsed } : State).setVm s₂.vm).frames = .java g₀ :: r := hr
  rcases hq' with ⟨hqc, L, hfe, hL⟩ | ⟨q, rfl, E, ce, L, hx, hce, hcv, hcl, hW₂, hsm, hL⟩
  · obtain ⟨⟨v, rfl⟩, hW₂, e2, q2, q3, q4, q5, q6⟩ := id hfe
    have e3 : s₂ = ({ (U.calling g mk a).setFrames s₂.frames with heap := s₂.heap, slotsUsed := s₂.slotsUsed } : State).setVm s₂.vm := by
      have : s₂ = ({ s₂ with vm := (U.calling g mk a).vm } : State).setVm s₂.vm := rfl
      rw [e2] at this
      exact this
    obtain ⟨c₂, i₂, len₂, hc₂, hd₂, hf₂⟩ := hend
    have hW' : U.WarmedH s₂.vm := hW₂
    have hcc : c₂ = c := by
      have h1 : s₂.code? g.method = U.code? g.method := by
        rw [State.code?_eq, State.code?_eq, hW'.alike.method?]
      exact Option.some.inj (hc₂.symm.trans (h1.trans h.code))
    subst hcc
    have hlen : len₂ = len := by rw [hdg] at hd₂; cases hd₂; rfl
    subst hlen
    have hs₂ : s₂ = (({ U with heap := s₂.heap, slotsUsed := s₂.slotsUsed } : State).setVm s₂.vm).setTop { g with pc := g.pc + len₂, stack := v.toList ++ g.stack } := by
      refine e3.trans ?_
      rw [hf₂, State.calling_eq h.top, State.setFrames_setFrames, State.setTop_of_frames _ hr', hr]
      rfl
    have hsame : U.sameButNew ({ U with heap := s₂.heap, slotsUsed := s₂.slotsUsed } : State) L mc ms := by
      refine ⟨?_, q2, q3, q4, q5, q6⟩
      obtain ⟨t, ht, -⟩ := State.frames_cons hr
      show ({ U with heap := s₂.heap, slotsUsed := s₂.slotsUsed } : State) = { U.setFrames U.frames with heap := s₂.heap, slotsUsed := s₂.slotsUsed }
      rw [State.setFrames_self ht]
    subst hg
    refine Or.inl ⟨v, ⟨(({ U with heap := s₂.heap, slotsUsed := s₂.slotsUsed } : State).setVm s₂.vm), Ls ++ L, c0 + mc, s0 + ms⟩,
      ⟨X.admits, X.cas, X.clock, X.frames, X.room, X.hears, X.method, X.code, (X.here.setHeapUsed s₂.heap s₂.slotsUsed).setVm hW'.alike, X.tail, State.WarmedH.trans X.warmed hW', X.limits, X.bytes, X.same.trans (hsame.setVm s.vm)⟩,
      ⟨g, mk, s₂, L, rfl, rfl, hqc, rfl, hL, rfl, rfl⟩, ?_⟩
    show Steps p.tables e below _ ((({ U with heap := s₂.heap, slotsUsed := s₂.slotsUsed } : State).setVm s₂.vm).setTop { g with pc := g.pc + len₂, stack := v.toList ++ g.stack })
    rw [← hs₂]
    exact hsteps
  · obtain ⟨e2, q2, q3, q4, q5, q6⟩ := id hsm
    have e3 : s₂ = ({ (U.calling g mk a).setFrames s₂.frames with heap := s₂.heap, slotsUsed := s₂.slotsUsed } : State).setVm s₂.vm := by
      have : s₂ = ({ s₂ with vm := (U.calling g mk a).vm } : State).setVm s₂.vm := rfl
      rw [e2] at this
      exact this
    have hf₂ : s₂.frames = .throwing q :: .java g :: U.frames.tail := hend
    have hW' : U.WarmedH s₂.vm := hW₂
    have hs₂ : s₂ = ((({ U with heap := s₂.heap, slotsUsed := s₂.slotsUsed } : State).setVm s₂.vm).setTop g).pushFrame (.throwing q) := by
      refine e3.trans ?_
      rw [hf₂, State.calling_eq h.top, State.setFrames_setFrames, State.pushFrame, State.frames_setTop _ hr', State.setTop_of_frames _ hr', State.setFrames_setFrames, hr]
      rfl
    have hsame : U.sameButNew ({ U with heap := s₂.heap, slotsUsed := s₂.slotsUsed } : State) L mc ms := by
      refine ⟨?_, q2, q3, q4, q5, q6⟩
      obtain ⟨t, ht, -⟩ := State.frames_cons hr
      show ({ U with heap := s₂.heap, slotsUsed := s₂.slotsUsed } : State) = { U.setFrames U.frames with heap := s₂.heap, slotsUsed := s₂.slotsUsed }
      rw [State.setFrames_self ht]
    subst hg
    refine Or.inr ⟨q, ⟨(({ U with heap := s₂.heap, slotsUsed := s₂.slotsUsed } : State).setVm s₂.vm), Ls ++ L, c0 + mc, s0 + ms⟩,
      ⟨X.admits, X.cas, X.clock, X.frames, X.room, X.hears, X.method, X.code, (X.here.setHeapUsed s₂.heap s₂.slotsUsed).setVm hW'.alike, X.tail, State.WarmedH.trans X.warmed hW', X.limits, X.bytes, X.same.trans (hsame.setVm s.vm)⟩,
      ⟨g, mk, s₂, L, E, ce, rfl, rfl, hx, hce, hcv, hcl, rfl, hL, rfl, rfl⟩, ?_⟩
    show Steps p.tables e below _ (((({ U with heap := s₂.heap, slotsUsed := s₂.slotsUsed } : State).setVm s₂.vm).setTop g).pushFrame (.throwing q))
    rw [← hs₂]
    exact hsteps
end Payer
section Calls
variable {p : Program} {l : Launch} {e : Env} {R : Room} {s : State} {m : MethodId} {args : Array Value} {below : List Frame} {meth : Method} {c : Code} {T : State} {locs : List Loc} {cells slots : Nat}
theorem vx_callV (X : Stand p l e R s m args below meth c T locs cells slots) (hexec : p.tables.exec = Jvm.exec) {own C : String} {index : Nat} {y : MethodName} {bytes : ByteArray} {maxL : Nat} {ret : Option FieldType}
    (hown : s.vm.findClass own = some m.cls) (hlink : (Cond.methodLink own index y).before args s = true) (hinst : (Cond.instanceMethod y).before args s = true) (hsel : (Cond.selects C y y).before args s = true)
    (hcode : (Cond.code y bytes maxL ret).before args s = true) (hy : y.cls ≠ "java/lang/invoke/MethodHandle" ∧ y.cls ≠ "java/lang/invoke/VarHandle")
    {W9 : Nat} {Pre : Pt → Array Value → Prop} {Post : Pt → Array Value → Option Value → Pt → Prop} {PostX : Pt → Array Value → Addr → Pt → Prop} (hK : vx_Back l R p e below s args y 3 W9 Pre Post PostX)
    {b : Addr} {cellB : Cell} (hcell : T.heap[b]? = some cellB) (hobj : cellB.vm.isStatics = false) (hcls : s.vm.findClass C = some cellB.cls)
    {g : JFrame} (hg : g.method = m) (hsize : g.locals.size = c.maxLocals) {argsL rest : List Value} (hlen : ∀ sig, parseMethodDescriptor y.desc = some sig → argsL.length = sig.parameters.length)
    (hstack : g.stack = argsL.reverse ++ .ref b :: rest) (hW : 2 * g.monitorRoom + (rest.map fun v => v.category).sum ≤ W9) (hdg : decode c.code g.pc = .ok (.invokevirtual index, 3))
    (hpre : ∀ vm₁, s.WarmedH vm₁ → Pre ⟨T.setVm vm₁, locs, cells, slots⟩ (Value.ref b :: argsL).toArray) :
    (∃ (v : Option Value) (vm₁ : Vm) (B : Pt), s.WarmedH vm₁ ∧ Stand p l e R s m args below meth c B.U B.locs B.cells B.slots ∧ Post ⟨T.setVm vm₁, locs, cells, slots⟩ (Value.ref b :: argsL).toArray v B ∧
      ∀ target, Steps p.tables e below (B.U.setTop { g with pc := g.pc + 3, stack := v.toList ++ rest }) target → Steps p.tables e below (T.setTop g) target) ∨
    (∃ (q : Addr) (vm₁ : Vm) (B : Pt), s.WarmedH vm₁ ∧ Stand p l e R s m args below meth c B.U B.locs B.cells B.slots ∧ PostX ⟨T.setVm vm₁, locs, cells, slots⟩ (Value.ref b :: argsL).toArray q B ∧
      Steps p.tables e below (T.setTop g) ((B.U.setTop { g with stack := rest }).pushFrame (.throwing q))) := by
  obtain ⟨mk, methM, hnamed, hmethM, hstM, habM⟩ := Cond.instanceMethod_spec hinst
  obtain ⟨methM', cM, hmethM', -, -, -, -, -, -, hsigM⟩ := Cond.code_spec hnamed hcode
  cases hmethM.symm.trans hmethM'
  obtain ⟨c2, r2, m2, q1, q2, q3, q4, kP, hkP, hkPi⟩ := Cond.selects_spec hsel
  cases hcls.symm.trans q1
  cases (State.methodFound?_of_named hnamed hy).symm.trans q2
  cases hnamed.symm.trans q3
  have hselP : selectMethod e.platform s.vm cellB.cls mk = .method mk := by rw [Launch.admits_selectMethod X.admits]; exact q4
  obtain ⟨vm₁, X₁, hstep₁⟩ := X.invokevirtual hexec hown hlink hnamed hmethM hstM hkP hkPi hy (a := b) (cell := cellB) hcell
    (fun z h => by rw [h] at hobj; cases hobj) hselP hmethM habM hkP hkPi (g := g) hg (argsL := argsL) (rest := rest) (hlen _ hsigM) hstack hdg
  rcases hK m meth c ⟨T.setVm vm₁, locs, cells, slots⟩ { g with stack := rest } (.invokevirtual index) mk (Value.ref b :: argsL).toArray X₁ hg hsize hdg hW (X₁.named hnamed) (hpre vm₁ X₁.warmed) with ⟨v, B, X', hpost, hsteps⟩ | ⟨q, B, X', hpost, hsteps⟩
  · exact Or.inl ⟨v, vm₁, B, X₁.warmed, X', hpost, fun target h => hstep₁ _ fun acts => by rw [doInvoke_state]; exact hsteps.trans h⟩
  · exact Or.inr ⟨q, vm₁, B, X₁.warmed, X', hpost, hstep₁ _ fun acts => by rw [doInvoke_state]; exact hsteps⟩
theorem vx_callS (X : Stand p l e R s m args below meth c T locs cells slots) (hexec : p.tables.exec = Jvm.exec) {own : String} {index : Nat} {y : MethodName} {bytes : ByteArray} {maxL : Nat} {ret : Option FieldType}
    (hown : s.vm.findClass own = some m.cls) (hlink : (Cond.methodLink own index y).before args s = true) (hstat : (Cond.static y).before args s = true) (hinit : (Cond.initialized y.cls).before args s = true)
    (hcode : (Cond.code y bytes maxL ret).before args s = true) (hy : y.cls ≠ "java/lang/invoke/MethodHandle" ∧ y.cls ≠ "java/lang/invoke/VarHandle")
    {W9 : Nat} {Pre : Pt → Array Value → Prop} {Post : Pt → Array Value → Option Value → Pt → Prop} {PostX : Pt → Array Value → Addr → Pt → Prop} (hK : vx_Back l R p e below s args y 3 W9 Pre Post PostX)
    {g : JFrame} (hg : g.method = m) (hsize : g.locals.size = c.maxLocals) {argsL rest : List Value} (hlen : ∀ sig, parseMethodDescriptor y.desc = some sig → argsL.length = sig.parameters.length)
    (hstack : g.stack = argsL.reverse ++ rest) (hW : 2 * g.monitorRoom + (rest.map fun v => v.category).sum ≤ W9) (hdg : decode c.code g.pc = .ok (.invokestatic index, 3))
    (hpre : ∀ vm₁, s.WarmedH vm₁ → Pre ⟨T.setVm vm₁, locs, cells, slots⟩ argsL.toArray) :
    (∃ (v : Option Value) (vm₁ : Vm) (B : Pt), s.WarmedH vm₁ ∧ Stand p l e R s m args below meth c B.U B.locs B.cells B.slots ∧ Post ⟨T.setVm vm₁, locs, cells, slots⟩ argsL.toArray v B ∧
      ∀ target, Steps p.tables e below (B.U.setTop { g with pc := g.pc + 3, stack := v.toList ++ rest }) target → Steps p.tables e below (T.setTop g) target) ∨
    (∃ (q : Addr) (vm₁ : Vm) (B : Pt), s.WarmedH vm₁ ∧ Stand p l e R s m args below meth c B.U B.locs B.cells B.slots ∧ PostX ⟨T.setVm vm₁, locs, cells, slots⟩ argsL.toArray q B ∧
      Steps p.tables e below (T.setTop g) ((B.U.setTop { g with stack := rest }).pushFrame (.throwing q))) := by
  obtain ⟨mk, hnamed⟩ := Cond.code_named hcode
  obtain ⟨methM, cM, hmethM, -, -, -, -, -, -, hsigM⟩ := Cond.code_spec hnamed hcode
  have hstatic : methM.isStatic = true := Cond.static_spec hnamed hmethM hstat
  obtain ⟨kP, hkP, -⟩ := className_of_methodNamed hnamed
  have hinitP : kP.init = .initialized := Cond.initialized_spec (findClass_of_methodNamed hnamed) hkP hinit
  obtain ⟨vm₁, X₁, hstep₁⟩ := X.invokestatic hexec hown hlink hnamed hmethM hstatic hkP hinitP hy (g := g) hg (argsL := argsL) (rest := rest) (hlen _ hsigM) hstack hdg
  rcases hK m meth c ⟨T.setVm vm₁, locs, cells, slots⟩ { g with stack := rest } (.invokestatic index) mk argsL.toArray X₁ hg hsize hdg hW (X₁.named hnamed) (hpre vm₁ X₁.warmed) with ⟨v, B, X', hpost, hsteps⟩ | ⟨q, B, X', hpost, hsteps⟩
  · exact Or.inl ⟨v, vm₁, B, X₁.warmed, X', hpost, fun target h => hstep₁ _ fun acts => by rw [doInvoke_state]; exact hsteps.trans h⟩
  · exact Or.inr ⟨q, vm₁, B, X₁.warmed, X', hpost, hstep₁ _ fun acts => by rw [doInvoke_state]; exact hsteps⟩
end Calls
theorem vx_cls {s : State} {T : State} {vm₁ : Vm} {E : String} {k : ClassId} (hW : s.WarmedH vm₁) (h : (T.setVm vm₁).vm.findClass E = some k) : s.vm.findClass E = some k := by
  have h1 : vm₁.findClass E = some k := h
  rw [hW.alike.findClass] at h1
  exact h1
/-- the method's frame g, with q thrown over it -/
def vx_W (p : Program) (l : Launch) (e : Env) (R : Room) (s : State) (m : MethodId) (args : Array Value) (below : List Frame) (meth : Method) (c : Code) (H : Heap) (locs : List Loc) (cells slots : Nat) (Q : State → Prop) (g : JFrame) (q : Addr) : Prop :=
  ∀ T : State, T.heap = H → Stand p l e R s m args below meth c T locs cells slots → ∃ t, Steps p.tables e below ((T.setTop g).pushFrame (.throwing q)) t ∧ Q t
def vx_Run (p : Program) (l : Launch) (e : Env) (R : Room) (s : State) (m : MethodId) (args : Array Value) (below : List Frame) (meth : Method) (c : Code) (H : Heap) (locs : List Loc) (cells slots mc ms : Nat) (g : JFrame) (rest : List Value) (Qa : State → Outcome → State → Prop) (XC : String → State → State → Prop) (free : Addr → Prop) : Prop :=
  ∀ T : State, T.heap = H → Stand p l e R s m args below meth c T locs cells slots →
    (∃ (v : Option Value) (st₀ t T' : State) (L : List Loc), st₀.heap = H ∧ Stand p l e R s m args below meth c T' (locs ++ L) (cells + mc) (slots + ms) ∧ (∀ q ∈ L, free q.base) ∧ T'.heap = t.heap ∧ T'.vm = t.vm ∧ Qa st₀ (.returned v) t ∧
      Goes p e below T g T' { g with pc := g.pc + 3, stack := v.toList ++ rest }) ∨
    (∃ (q : Addr) (st₀ t T' : State) (L : List Loc) (E : String) (ce : Cell), st₀.heap = H ∧ Stand p l e R s m args below meth c T' (locs ++ L) (cells + mc) (slots + ms) ∧ (∀ z ∈ L, free z.base) ∧ T'.heap = t.heap ∧ T'.vm = t.vm ∧ XC E st₀ t ∧ t.heap[q]? = some ce ∧ ce.vm = .none ∧ s.vm.findClass E = some ce.cls ∧
      Steps p.tables e below (T.setTop g) ((T'.setTop { g with stack := rest }).pushFrame (.throwing q)))
def vx_X {S : Type} (px : S → Prop) (B : String → S → State → Prop) (A : Nat → Prop) : String → State → State → Prop := fun E st t => ∃ u : S, px u ∧ B E u t ∧ va_F A st t
section Runs
variable {p : Program} {l : Launch} {e : Env} {R : Room} {s : State} {m : MethodId} {args : Array Value} {below : List Frame} {meth : Method} {c : Code} {H : Heap} {locs : List Loc} {cells slots : Nat}
variable {y : MethodName} {bytes cc : ByteArray} {maxL nL mc ms n index : Nat} {ret : Option FieldType} {ws : List Cond} {rm : Room} {Pc : Array Value → State → Prop} {Qc : Array Value → State → Outcome → State → Prop} {XC : String → State → State → Prop} {free : Addr → Prop} {Ts : List Cond} {own C : String} {b : Addr} {As rest : List Value} {g : JFrame}
theorem vx_callBack (cb : CallB R s args own index y bytes maxL ret ws rm mc ms n) (hM : vx_Met l y ws rm Pc Qc XC mc ms free) (hbl : FrameBlind Pc) : vx_Back l R p e below s args y 3 8 (PreOf R mc ms Pc) (PostOf Qc mc ms free) (vx_Post XC mc ms free) := by
  obtain ⟨hrc, hrs, hfr, hlo, hws, hcw, -, hini, -⟩ := cb
  exact vx_back (bytes := bytes) (maxL := maxL) (ret := ret) hM hbl hrc hrs hfr hlo hws hcw (fun a' U hW => word_at hW (Or.inl (by first | rfl | simp [Cond.onTables, Cond.keeps, Cond.steady])) hini)
theorem vx_runV (S : CallFix p m c cc nL s args Ts own) (hM : vx_Met l y ws rm Pc Qc XC mc ms free) (cw : CallW R s args own C index y bytes maxL ret ws rm mc ms n) (hp : PreV s H C b Pc As)
    (hg : g.method = m) (hn : As.length = n) (hsize : g.locals.size = nL) (hstack : g.stack = As.reverse ++ .ref b :: rest) (hW : 2 * g.monitorRoom + (rest.map fun v => v.category).sum ≤ 8) (hdg : decode cc g.pc = .ok (.invokevirtual index, 3)) (hf : cells + mc ≤ R.cells ∧ slots + ms ≤ R.slots) :
    vx_Run p l e R s m args below meth c H locs cells slots mc ms g rest (Qc (Value.ref b :: As).toArray) XC free := by
  have hK : vx_Back l R p e below s args y 3 8 (PreOf R mc ms Pc) (PostOf Qc mc ms free) (vx_Post XC mc ms free) := vx_callBack cw.1 hM hp.1
  obtain ⟨⟨-, -, -, -, -, -, hcode, -, hy, hlen, hl⟩, hin, hse⟩ := cw
  obtain ⟨hx, hb, hml, ho, -⟩ := S
  obtain ⟨-, ⟨cellB, hcB, hoB, hclB⟩, hPc⟩ := hp
  intro T hT X
  rcases vx_callV X hx (C := C) (bytes := bytes) (maxL := maxL) (ret := ret) ho hl hin hse hcode hy hK (by rw [hT]; exact hcB) hoB hclB hg (hsize.trans hml.symm) (argsL := As) (rest := rest) (fun sig h => hn.trans (hlen sig h)) hstack hW (by rw [hb]; exact hdg)
    (fun vm₁ hW₁ => ⟨hf.1, hf.2, hPc (T.setVm vm₁) hT hW₁⟩) with ⟨v, vm₁, ⟨U', l2, c2, s2⟩, hW₁, X', ⟨g', mk, t, L, e1, e2, hq, h1, hL, h2, h3⟩, st⟩ | ⟨q, vm₁, ⟨U', l2, c2, s2⟩, hW₁, X', ⟨g', mk, t, L, E, ce, e1, e2, hq, hce, hcv, hcl, h1, hL, h2, h3⟩, st⟩
  · dsimp only [Pt.U, Pt.locs, Pt.cells, Pt.slots] at X' e1 e2 h1 h2 h3 st
    subst h1; subst h2; subst h3
    exact Or.inl ⟨v, (T.setVm vm₁).calling g' mk (Value.ref b :: As).toArray, t, U', L, hT, X', hL, e1, e2, hq, st⟩
  · dsimp only [Pt.U, Pt.locs, Pt.cells, Pt.slots] at X' e1 e2 h1 h2 h3 st hcl
    subst h1; subst h2; subst h3
    exact Or.inr ⟨q, (T.setVm vm₁).calling g' mk (Value.ref b :: As).toArray, t, U', L, E, ce, hT, X', hL, e1, e2, hq, hce, hcv, vx_cls hW₁ hcl, st⟩
theorem vx_runS (S : CallFix p m c cc nL s args Ts own) (hM : vx_Met l y ws rm Pc Qc XC mc ms free) (cw : CallB R s args own index y bytes maxL ret ws rm mc ms n ∧ (Cond.static y).before args s = true) (hp : PreS s H Pc As)
    (hg : g.method = m) (hn : As.length = n) (hsize : g.locals.size = nL) (hstack : g.stack = As.reverse ++ rest) (hW : 2 * g.monitorRoom + (rest.map fun v => v.category).sum ≤ 8) (hdg : decode cc g.pc = .ok (.invokestatic index, 3)) (hf : cells + mc ≤ R.cells ∧ slots + ms ≤ R.slots) :
    vx_Run p l e R s m args below meth c H locs cells slots mc ms g rest (Qc As.toArray) XC free := by
  have hK : vx_Back l R p e below s args y 3 8 (PreOf R mc ms Pc) (PostOf Qc mc ms free) (vx_Post XC mc ms free) := vx_callBack cw.1 hM hp.1
  obtain ⟨⟨-, -, -, -, -, -, hcode, hini, hy, hlen, hl⟩, hstt⟩ := cw
  obtain ⟨hx, hb, hml, ho, -⟩ := S
  intro T hT X
  rcases vx_callS X hx (bytes := bytes) (maxL := maxL) (ret := ret) ho hl hstt hini hcode hy hK hg (hsize.trans hml.symm) (argsL := As) (rest := rest) (fun sig h => hn.trans (hlen sig h)) hstack hW (by rw [hb]; exact hdg)
    (fun vm₁ hW₁ => ⟨hf.1, hf.2, hp.2 (T.setVm vm₁) hT hW₁⟩) with ⟨v, vm₁, ⟨U', l2, c2, s2⟩, hW₁, X', ⟨g', mk, t, L, e1, e2, hq, h1, hL, h2, h3⟩, st⟩ | ⟨q, vm₁, ⟨U', l2, c2, s2⟩, hW₁, X', ⟨g', mk, t, L, E, ce, e1, e2, hq, hce, hcv, hcl, h1, hL, h2, h3⟩, st⟩
  · dsimp only [Pt.U, Pt.locs, Pt.cells, Pt.slots] at X' e1 e2 h1 h2 h3 st
    subst h1; subst h2; subst h3
    exact Or.inl ⟨v, (T.setVm vm₁).calling g' mk As.toArray, t, U', L, hT, X', hL, e1, e2, hq, st⟩
  · dsimp only [Pt.U, Pt.locs, Pt.cells, Pt.slots] at X' e1 e2 h1 h2 h3 st hcl
    subst h1; subst h2; subst h3
    exact Or.inr ⟨q, (T.setVm vm₁).calling g' mk As.toArray, t, U', L, E, ce, hT, X', hL, e1, e2, hq, hce, hcv, vx_cls hW₁ hcl, st⟩
end Runs
section Rows
variable {p : Program} {l : Launch} {e : Env} {R : Room} {s : State} {m : MethodId} {args : Array Value} {below : List Frame} {meth : Method} {c : Code} {H : Heap} {locs : List Loc} {cells slots : Nat} {Q : State → Prop}
variable {mc ms : Nat} {free : Addr → Prop} {A0 A1 : Nat → Prop} {H0 : Heap} {a : Array Value} {pc : Nat} {ls : Array Slot} {st0 rest : List Value}
theorem vx_keep {st₀ t T' : State} {L : List Loc} (h0 : st₀.heap = H) (e1 : T'.heap = t.heap) (hS : va_S A0 H0 H locs) (hA : ∀ q, q < H.size → A1 q → A0 q) (hf : ∀ q, free q → A0 q) (hL : ∀ q ∈ L, free q.base) (hF : va_F A1 st₀ t) :
    H.size ≤ T'.heap.size ∧ (∀ q : Nat, q < H.size → ¬ A1 q → T'.heap[q]? = H[q]?) ∧ va_S A0 H0 T'.heap (locs ++ L) := by
  obtain ⟨hz, hk⟩ := hF
  rw [h0] at hz hk
  exact ⟨by rw [e1]; exact hz, fun q h1 h2 => by rw [e1]; exact hk q h1 h2,
    ⟨Nat.le_trans hS.1 (by rw [e1]; exact hz), fun q h1 h2 => by rw [e1, hk q (Nat.lt_of_lt_of_le h1 hS.1) (fun z => h2 (hA q (Nat.lt_of_lt_of_le h1 hS.1) z))]; exact hS.2.1 q h1 h2, fun q hq => by
      rcases List.mem_append.mp hq with h | h
      · exact hS.2.2 q h
      · exact hf _ (hL q h)⟩⟩
theorem vx_calli {S SX : Type} {post : Int32 → S → Prop} {px : SX → Prop} {B : S → State → Prop} {BX : String → SX → State → Prop} {AX : Nat → Prop} (hr : vx_Run p l e R s m args below meth c H locs cells slots mc ms (F0 m pc ls st0) rest (va_Qi post B A1 a) (vx_X px BX AX) free) (hS : va_S A0 H0 H locs) (hA : ∀ q, q < H.size → A1 q → A0 q) (hf : ∀ q, free q → A0 q) (hAX : ∀ q, q < H.size → AX q → A0 q)
    (kx : ∀ (E : String) (ce : Cell) (q9 : Addr) (u : SX) (t : State) (H1 : Heap) (locs1 : List Loc), t.heap = H1 → s.vm.Alike t.vm → px u → BX E u t → H.size ≤ H1.size → (∀ q : Nat, q < H.size → ¬ AX q → H1[q]? = H[q]?) → va_S A0 H0 H1 locs1 → H1[q9]? = some ce → ce.vm = .none → s.vm.findClass E = some ce.cls → vx_W p l e R s m args below meth c H1 locs1 (cells + mc) (slots + ms) Q (F0 m pc ls rest) q9)
    (kk : ∀ (r : Int32) (u : S) (t : State) (H1 : Heap) (locs1 : List Loc), t.heap = H1 → s.vm.Alike t.vm → post r u → B u t → H.size ≤ H1.size → (∀ q : Nat, q < H.size → ¬ A1 q → H1[q]? = H[q]?) → va_S A0 H0 H1 locs1 → W p l e R s m args below meth c H1 locs1 (cells + mc) (slots + ms) Q (F0 m (pc + 3) ls (.int r :: rest))) : W p l e R s m args below meth c H locs cells slots Q (F0 m pc ls st0) := by
  intro T hT X
  rcases hr T hT X with ⟨v, st₀, t, T', L, h0, X', hL, e1, e2, ⟨⟨r, u, hv, hp, hb⟩, hF⟩, st⟩ | ⟨q, st₀, t, T', L, E, ce, h0, X', hL, e1, e2, ⟨u, hp, hb, hF⟩, hce, hcv, hcl, st⟩
  · cases hv
    obtain ⟨k1, k2, k3⟩ := vx_keep h0 e1 hS hA hf hL hF
    obtain ⟨t2, a1, b1⟩ := kk r u t T'.heap (locs ++ L) e1.symm (by rw [← e2]; exact X'.warmed.alike) hp hb k1 k2 k3 T' rfl X'
    exact ⟨t2, st t2 a1, b1⟩
  · obtain ⟨k1, k2, k3⟩ := vx_keep h0 e1 hS hAX hf hL hF
    obtain ⟨t2, a1, b1⟩ := kx E ce q u t T'.heap (locs ++ L) e1.symm (by rw [← e2]; exact X'.warmed.alike) hp hb k1 k2 k3 (by rw [e1]; exact hce) hcv hcl T' rfl X'
    exact ⟨t2, st.trans a1, b1⟩
theorem vx_calll {S SX : Type} {post : Int64 → S → Prop} {px : SX → Prop} {B : S → State → Prop} {BX : String → SX → State → Prop} {AX : Nat → Prop} (hr : vx_Run p l e R s m args below meth c H locs cells slots mc ms (F0 m pc ls st0) rest (va_Ql post B A1 a) (vx_X px BX AX) free) (hS : va_S A0 H0 H locs) (hA : ∀ q, q < H.size → A1 q → A0 q) (hf : ∀ q, free q → A0 q) (hAX : ∀ q, q < H.size → AX q → A0 q)
    (kx : ∀ (E : String) (ce : Cell) (q9 : Addr) (u : SX) (t : State) (H1 : Heap) (locs1 : List Loc), t.heap = H1 → s.vm.Alike t.vm → px u → BX E u t → H.size ≤ H1.size → (∀ q : Nat, q < H.size → ¬ AX q → H1[q]? = H[q]?) → va_S A0 H0 H1 locs1 → H1[q9]? = some ce → ce.vm = .none → s.vm.findClass E = some ce.cls → vx_W p l e R s m args below meth c H1 locs1 (cells + mc) (slots + ms) Q (F0 m pc ls rest) q9)
    (kk : ∀ (r : Int64) (u : S) (t : State) (H1 : Heap) (locs1 : List Loc), t.heap = H1 → s.vm.Alike t.vm → post r u → B u t → H.size ≤ H1.size → (∀ q : Nat, q < H.size → ¬ A1 q → H1[q]? = H[q]?) → va_S A0 H0 H1 locs1 → W p l e R s m args below meth c H1 locs1 (cells + mc) (slots + ms) Q (F0 m (pc + 3) ls (.long r :: rest))) : W p l e R s m args below meth c H locs cells slots Q (F0 m pc ls st0) := by
  intro T hT X
  rcases hr T hT X with ⟨v, st₀, t, T', L, h0, X', hL, e1, e2, ⟨⟨r, u, hv, hp, hb⟩, hF⟩, st⟩ | ⟨q, st₀, t, T', L, E, ce, h0, X', hL, e1, e2, ⟨u, hp, hb, hF⟩, hce, hcv, hcl, st⟩
  · cases hv
    obtain ⟨k1, k2, k3⟩ := vx_keep h0 e1 hS hA hf hL hF
    obtain ⟨t2, a1, b1⟩ := kk r u t T'.heap (locs ++ L) e1.symm (by rw [← e2]; exact X'.warmed.alike) hp hb k1 k2 k3 T' rfl X'
    exact ⟨t2, st t2 a1, b1⟩
  · obtain ⟨k1, k2, k3⟩ := vx_keep h0 e1 hS hAX hf hL hF
    obtain ⟨t2, a1, b1⟩ := kx E ce q u t T'.heap (locs ++ L) e1.symm (by rw [← e2]; exact X'.warmed.alike) hp hb k1 k2 k3 (by rw [e1]; exact hce) hcv hcl T' rfl X'
    exact ⟨t2, st.trans a1, b1⟩
theorem vx_callf {S SX : Type} {post : UInt32 → S → Prop} {px : SX → Prop} {B : S → State → Prop} {BX : String → SX → State → Prop} {AX : Nat → Prop} (hr : vx_Run p l e R s m args below meth c H locs cells slots mc ms (F0 m pc ls st0) rest (va_Qf post B A1 a) (vx_X px BX AX) free) (hS : va_S A0 H0 H locs) (hA : ∀ q, q < H.size → A1 q → A0 q) (hf : ∀ q, free q → A0 q) (hAX : ∀ q, q < H.size → AX q → A0 q)
    (kx : ∀ (E : String) (ce : Cell) (q9 : Addr) (u : SX) (t : State) (H1 : Heap) (locs1 : List Loc), t.heap = H1 → s.vm.Alike t.vm → px u → BX E u t → H.size ≤ H1.size → (∀ q : Nat, q < H.size → ¬ AX q → H1[q]? = H[q]?) → va_S A0 H0 H1 locs1 → H1[q9]? = some ce → ce.vm = .none → s.vm.findClass E = some ce.cls → vx_W p l e R s m args below meth c H1 locs1 (cells + mc) (slots + ms) Q (F0 m pc ls rest) q9)
    (kk : ∀ (r : UInt32) (u : S) (t : State) (H1 : Heap) (locs1 : List Loc), t.heap = H1 → s.vm.Alike t.vm → post r u → B u t → H.size ≤ H1.size → (∀ q : Nat, q < H.size → ¬ A1 q → H1[q]? = H[q]?) → va_S A0 H0 H1 locs1 → W p l e R s m args below meth c H1 locs1 (cells + mc) (slots + ms) Q (F0 m (pc + 3) ls (.float r :: rest))) : W p l e R s m args below meth c H locs cells slots Q (F0 m pc ls st0) := by
  intro T hT X
  rcases hr T hT X with ⟨v, st₀, t, T', L, h0, X', hL, e1, e2, ⟨⟨r, u, hv, hp, hb⟩, hF⟩, st⟩ | ⟨q, st₀, t, T', L, E, ce, h0, X', hL, e1, e2, ⟨u, hp, hb, hF⟩, hce, hcv, hcl, st⟩
  · cases hv
    obtain ⟨k1, k2, k3⟩ := vx_keep h0 e1 hS hA hf hL hF
    obtain ⟨t2, a1, b1⟩ := kk r u t T'.heap (locs ++ L) e1.symm (by rw [← e2]; exact X'.warmed.alike) hp hb k1 k2 k3 T' rfl X'
    exact ⟨t2, st t2 a1, b1⟩
  · obtain ⟨k1, k2, k3⟩ := vx_keep h0 e1 hS hAX hf hL hF
    obtain ⟨t2, a1, b1⟩ := kx E ce q u t T'.heap (locs ++ L) e1.symm (by rw [← e2]; exact X'.warmed.alike) hp hb k1 k2 k3 (by rw [e1]; exact hce) hcv hcl T' rfl X'
    exact ⟨t2, st.trans a1, b1⟩
theorem vx_calld {S SX : Type} {post : UInt64 → S → Prop} {px : SX → Prop} {B : S → State → Prop} {BX : String → SX → State → Prop} {AX : Nat → Prop} (hr : vx_Run p l e R s m args below meth c H locs cells slots mc ms (F0 m pc ls st0) rest (va_Qd post B A1 a) (vx_X px BX AX) free) (hS : va_S A0 H0 H locs) (hA : ∀ q, q < H.size → A1 q → A0 q) (hf : ∀ q, free q → A0 q) (hAX : ∀ q, q < H.size → AX q → A0 q)
    (kx : ∀ (E : String) (ce : Cell) (q9 : Addr) (u : SX) (t : State) (H1 : Heap) (locs1 : List Loc), t.heap = H1 → s.vm.Alike t.vm → px u → BX E u t → H.size ≤ H1.size → (∀ q : Nat, q < H.size → ¬ AX q → H1[q]? = H[q]?) → va_S A0 H0 H1 locs1 → H1[q9]? = some ce → ce.vm = .none → s.vm.findClass E = some ce.cls → vx_W p l e R s m args below meth c H1 locs1 (cells + mc) (slots + ms) Q (F0 m pc ls rest) q9)
    (kk : ∀ (r : UInt64) (u : S) (t : State) (H1 : Heap) (locs1 : List Loc), t.heap = H1 → s.vm.Alike t.vm → post r u → B u t → H.size ≤ H1.size → (∀ q : Nat, q < H.size → ¬ A1 q → H1[q]? = H[q]?) → va_S A0 H0 H1 locs1 → W p l e R s m args below meth c H1 locs1 (cells + mc) (slots + ms) Q (F0 m (pc + 3) ls (.double r :: rest))) : W p l e R s m args below meth c H locs cells slots Q (F0 m pc ls st0) := by
  intro T hT X
  rcases hr T hT X with ⟨v, st₀, t, T', L, h0, X', hL, e1, e2, ⟨⟨r, u, hv, hp, hb⟩, hF⟩, st⟩ | ⟨q, st₀, t, T', L, E, ce, h0, X', hL, e1, e2, ⟨u, hp, hb, hF⟩, hce, hcv, hcl, st⟩
  · cases hv
    obtain ⟨k1, k2, k3⟩ := vx_keep h0 e1 hS hA hf hL hF
    obtain ⟨t2, a1, b1⟩ := kk r u t T'.heap (locs ++ L) e1.symm (by rw [← e2]; exact X'.warmed.alike) hp hb k1 k2 k3 T' rfl X'
    exact ⟨t2, st t2 a1, b1⟩
  · obtain ⟨k1, k2, k3⟩ := vx_keep h0 e1 hS hAX hf hL hF
    obtain ⟨t2, a1, b1⟩ := kx E ce q u t T'.heap (locs ++ L) e1.symm (by rw [← e2]; exact X'.warmed.alike) hp hb k1 k2 k3 (by rw [e1]; exact hce) hcv hcl T' rfl X'
    exact ⟨t2, st.trans a1, b1⟩
theorem vx_callv {S SX : Type} {post : S → Prop} {px : SX → Prop} {B : S → State → Prop} {BX : String → SX → State → Prop} {AX : Nat → Prop} (hr : vx_Run p l e R s m args below meth c H locs cells slots mc ms (F0 m pc ls st0) rest (va_Qv post B A1 a) (vx_X px BX AX) free) (hS : va_S A0 H0 H locs) (hA : ∀ q, q < H.size → A1 q → A0 q) (hf : ∀ q, free q → A0 q) (hAX : ∀ q, q < H.size → AX q → A0 q)
    (kx : ∀ (E : String) (ce : Cell) (q9 : Addr) (u : SX) (t : State) (H1 : Heap) (locs1 : List Loc), t.heap = H1 → s.vm.Alike t.vm → px u → BX E u t → H.size ≤ H1.size → (∀ q : Nat, q < H.size → ¬ AX q → H1[q]? = H[q]?) → va_S A0 H0 H1 locs1 → H1[q9]? = some ce → ce.vm = .none → s.vm.findClass E = some ce.cls → vx_W p l e R s m args below meth c H1 locs1 (cells + mc) (slots + ms) Q (F0 m pc ls rest) q9)
    (kk : ∀ (u : S) (t : State) (H1 : Heap) (locs1 : List Loc), t.heap = H1 → s.vm.Alike t.vm → post u → B u t → H.size ≤ H1.size → (∀ q : Nat, q < H.size → ¬ A1 q → H1[q]? = H[q]?) → va_S A0 H0 H1 locs1 → W p l e R s m args below meth c H1 locs1 (cells + mc) (slots + ms) Q (F0 m (pc + 3) ls (rest))) : W p l e R s m args below meth c H locs cells slots Q (F0 m pc ls st0) := by
  intro T hT X
  rcases hr T hT X with ⟨v, st₀, t, T', L, h0, X', hL, e1, e2, ⟨⟨u, hv, hp, hb⟩, hF⟩, st⟩ | ⟨q, st₀, t, T', L, E, ce, h0, X', hL, e1, e2, ⟨u, hp, hb, hF⟩, hce, hcv, hcl, st⟩
  · cases hv
    obtain ⟨k1, k2, k3⟩ := vx_keep h0 e1 hS hA hf hL hF
    obtain ⟨t2, a1, b1⟩ := kk u t T'.heap (locs ++ L) e1.symm (by rw [← e2]; exact X'.warmed.alike) hp hb k1 k2 k3 T' rfl X'
    exact ⟨t2, st t2 a1, b1⟩
  · obtain ⟨k1, k2, k3⟩ := vx_keep h0 e1 hS hAX hf hL hF
    obtain ⟨t2, a1, b1⟩ := kx E ce q u t T'.heap (locs ++ L) e1.symm (by rw [← e2]; exact X'.warmed.alike) hp hb k1 k2 k3 (by rw [e1]; exact hce) hcv hcl T' rfl X'
    exact ⟨t2, st.trans a1, b1⟩
/-- caught by the row x of this method's table; the rows ahead don't take it -/
theorem vx_catch {own name : String} {E : String} {ce : Cell} {q : Addr} (hown : s.vm.findClass own = some m.cls) (pre : List ExceptionTableEntry) (x : ExceptionTableEntry) (suf : List ExceptionTableEntry) (hsplit : c.exceptionTable.toList = pre ++ x :: suf)
    (hpass : ∀ z ∈ pre, covers z pc = false ∨ (z.catchType ≠ 0 ∧ ∃ nm : String, (Cond.classLink own z.catchType nm).before args s = true ∧ va_Nc E nm s)) (hx : covers x pc = true) (h0 : x.catchType ≠ 0)
    (hlink : (Cond.classLink own x.catchType name).before args s = true) (hcast : (Cond.castable E name).before args s = true) (hcell : H[q]? = some ce) (hv : ce.vm = .none) (hcl : s.vm.findClass E = some ce.cls)
    (kk : W p l e R s m args below meth c H locs cells slots Q (F0 m x.handlerPc ls [.ref q])) : vx_W p l e R s m args below meth c H locs cells slots Q (F0 m pc ls rest) q := by
  intro T hT X
  have hpl : e.platform.magicAccessors = ({} : Platform).magicAccessors := by rw [X.admits.platform]
  obtain ⟨c3, c4, hc3, hc4, hasg⟩ := Cond.castable_spec hcast
  cases Option.some.inj (hc3.symm.trans hcl)
  obtain ⟨c5, hc5, hcl5⟩ := Cond.classLink_spec hown hlink e.platform hpl
  cases Option.some.inj (hc4.symm.trans hc5)
  obtain ⟨vm', X', st⟩ := X.thenCaughtThrough q (g := F0 m pc ls rest) rfl (Steps.refl _) (by rw [hT]; exact hcell) (by rw [hv]; rfl) (by obtain ⟨k9, h9, -⟩ := Vm.findClass_spec hcl; exact ⟨k9, h9⟩) pre x suf hsplit
    (fun z hz => by
      rcases hpass z hz with h | ⟨hz0, nm, hl1, hn1⟩
      · exact Or.inl h
      · obtain ⟨c6, hc6, hcl6⟩ := Cond.classLink_spec hown hl1 e.platform hpl
        obtain ⟨a8, b8, h1, h2, h3⟩ := hn1
        cases Option.some.inj (h1.symm.trans hcl)
        cases Option.some.inj (h2.symm.trans hc6)
        exact Or.inr ⟨hz0, _, hcl6, h3⟩) hx (Or.inr ⟨h0, c4, hcl5, hasg⟩)
  obtain ⟨t, a1, b1⟩ := kk (T.setVm vm') hT X'
  exact ⟨t, st.trans a1, b1⟩
end Rows
section Ends
variable {p : Program} {l : Launch} {e : Env} {R : Room} {s : State} {m : MethodId} {args : Array Value} {below : List Frame} {meth : Method} {c : Code} {H : Heap} {locs : List Loc} {cells slots : Nat} {Q : State → Prop}
variable {mc ms : Nat} {free : Addr → Prop} {A0 A1 : Nat → Prop} {H0 : Heap} {a : Array Value} {ls : Array Slot} {st0 rest : List Value}
variable {Qc : Array Value → State → Outcome → State → Prop} {XC : String → State → State → Prop}
/-- what a body that may throw owes at its end -/
def vx_MQ (below : List Frame) (Qc : Array Value → State → Outcome → State → Prop) (XC : String → State → State → Prop) (a : Array Value) (s : State) (mc ms : Nat) (free : Addr → Prop) : State → Prop := fun t =>
  ∃ o, t.status = .running ∧ Ended t below o ∧ vx_Q Qc XC mc ms free a s o t
theorem vx_ret {g : JFrame} {mc ms : Nat} (k : W p l e R s m args below meth c H locs cells slots (MQ below Qc args s mc ms free) g) : W p l e R s m args below meth c H locs cells slots (vx_MQ below Qc XC args s mc ms free) g := by
  intro T hT X
  obtain ⟨t, a1, o, b1, b2, b3, b4⟩ := k T hT X
  exact ⟨t, a1, o, b1, b2, Or.inl ⟨b3, b4⟩⟩
/-- not caught here: it goes on to the caller -/
theorem vx_widen {g : JFrame} {q : Addr} {k n : Nat} (h1 : cells ≤ k) (h2 : slots ≤ n) (kk : vx_W p l e R s m args below meth c H locs k n Q g q) : vx_W p l e R s m args below meth c H locs cells slots Q g q := fun T hT X => kk T hT (stand_widen X h1 h2)
theorem vx_out {pc : Nat} {E : String} {ce : Cell} {q : Addr} {mc ms : Nat} (hout : ∀ x ∈ c.exceptionTable.toList, covers x pc = false) (hlocks : meth.locks = false) (hcell : H[q]? = some ce) (hv : ce.vm = .none) (hcl : s.vm.findClass E = some ce.cls)
    (hx : ∀ t : State, t.heap = H → s.vm.Alike t.vm → XC E s t) (hf : ∀ z ∈ locs, free z.base) (hc : cells ≤ mc) (hs : slots ≤ ms) :
    vx_W p l e R s m args below meth c H locs cells slots (vx_MQ below Qc XC args s mc ms free) (F0 m pc ls rest) q := by
  intro T hT X
  obtain ⟨st1, hrun, hend, hW, hsm⟩ := X.leaveThrown q (g := F0 m pc ls rest) rfl rfl rfl hout hlocks
  have hcell9 : (T.setFrames (.throwing q :: below)).heap[q]? = some ce := by
    show T.heap[q]? = some ce
    rw [hT]; exact hcell
  exact ⟨_, st1, .threw q, hrun, hend, Or.inr ⟨q, rfl, E, ce, locs, hx _ hT hW.alike, hcell9, hv, hcl, hW, hsm.mono hc hs, hf⟩⟩
theorem vx_frame {U : State} {k n : Nat} (h : s.sameButNew ({ U with vm := s.vm } : State) locs k n) : s.heap.size ≤ U.heap.size ∧ ∀ q : Nat, q < s.heap.size → (∀ z ∈ locs, z.base ≠ q) → U.heap[q]? = s.heap[q]? := by
  obtain ⟨-, h2, -, -, -, h6⟩ := h
  refine ⟨h2, fun q hq hz => ?_⟩
  obtain ⟨c9, e1, e2, e3, e4⟩ := h6 q _ (Array.getElem?_eq_getElem hq)
  have hs : c9.slots = (s.heap[q]).slots := Array.ext_getElem? fun i => e4 i fun hm => hz _ hm rfl
  have h9 : c9 = s.heap[q] := by
    rw [hs] at e2
    exact e2
  have e5 : U.heap[q]? = some c9 := e1
  rw [e5, h9, Array.getElem?_eq_getElem hq]
/-- the words of a throw but the four that speak of the heap -/
def vx_no (w : Cond) : Bool := decide (w ≠ .isRef (.static Bundle.tN "UNASSIGNED_STACK" Bundle.steD)) && decide (w ≠ .isRef (.static Bundle.tN "SUPPRESSED_SENTINEL" Bundle.listD)) && decide (w ≠ .laysStatic Bundle.tN "UNASSIGNED_STACK" Bundle.steD) && decide (w ≠ .laysStatic Bundle.tN "SUPPRESSED_SENTINEL" Bundle.listD)
def vx_at0 (own : String) (ic : Nat) (X : String) (names : List String) : List Cond := (Bundle.ownAtoms0 own ic X names).filter vx_no
def vx_atS (own : String) (ic : Nat) (X : String) (names : List String) : List Cond := (Bundle.ownAtoms own ic X names).filter vx_no
/-- a word that the tables alone decide, or a good one -/
def vx_ot (w : Cond) : Bool := w.onTables || goodWord w
theorem vx_ot_at {args a' : Array Value} {s U : State} {w : Cond} (hW : s.WarmedH U.vm) (hvm : s.vm = U.vm) (hg : vx_ot w = true) (h : w.before args s = true) : w.before a' U = true := by
  simp only [vx_ot, Bool.or_eq_true] at hg
  rcases hg with hg | hg
  · exact va_tabs hg hvm h
  · exact word_at hW (good_of_word hg) h
/-- a list's words: the good ones out of the method's own list, the others by premises of their own -/
theorem vx_hat {args : Array Value} {s : State} {L B : List Cond} (h1 : ∀ w ∈ L.filter goodWord, w.before args s = true) (h2 : ∀ w ∈ L.filter (fun w => !goodWord w), w ∈ B) (h3 : ∀ w ∈ B, w.before args s = true) : ∀ w ∈ L, w.before args s = true := by
  intro w hw
  by_cases g : goodWord w = true
  · exact h1 w (List.mem_filter.mpr ⟨hw, g⟩)
  · refine h3 w (h2 w (List.mem_filter.mpr ⟨hw, ?_⟩))
    show (!goodWord w) = true
    cases hgw : goodWord w
    · rfl
    · exact absurd hgw g
theorem vx_c {args : Array Value} {s : State} {w : Cond} {B : List Cond} (h : w.before args s = true) (t : ∀ w ∈ B, w.before args s = true) : ∀ w' ∈ w :: B, w'.before args s = true := fun w' h' => (List.mem_cons.mp h').elim (fun e => by rw [e]; exact h) (t w')
theorem vx_n {args : Array Value} {s : State} : ∀ w ∈ ([] : List Cond), w.before args s = true := fun _ h => nomatch h
theorem vx_own {args : Array Value} {s : State} {L : List Cond} (h1 : ∀ w ∈ L.filter vx_no, w.before args s = true)
    (hU : (Cond.isRef (.static Bundle.tN "UNASSIGNED_STACK" Bundle.steD)).before args s = true) (hN : (Cond.isRef (.static Bundle.tN "SUPPRESSED_SENTINEL" Bundle.listD)).before args s = true)
    (lU : (Cond.laysStatic Bundle.tN "UNASSIGNED_STACK" Bundle.steD).before args s = true) (lN : (Cond.laysStatic Bundle.tN "SUPPRESSED_SENTINEL" Bundle.listD).before args s = true) : ∀ w ∈ L, w.before args s = true := by
  intro w hw
  by_cases e1 : w = .isRef (.static Bundle.tN "UNASSIGNED_STACK" Bundle.steD)
  · rw [e1]; exact hU
  · by_cases e2 : w = .isRef (.static Bundle.tN "SUPPRESSED_SENTINEL" Bundle.listD)
    · rw [e2]; exact hN
    · by_cases e3 : w = .laysStatic Bundle.tN "UNASSIGNED_STACK" Bundle.steD
      · rw [e3]; exact lU
      · by_cases e4 : w = .laysStatic Bundle.tN "SUPPRESSED_SENTINEL" Bundle.listD
        · rw [e4]; exact lN
        · exact h1 w (List.mem_filter.mpr ⟨hw, by unfold vx_no; rw [decide_eq_true e1, decide_eq_true e2, decide_eq_true e3, decide_eq_true e4]; rfl⟩)
/-- where a static field lies, its class's statics cell in H -/
def vx_L (C n d : String) (A : Nat → Prop) (U : State) (H : Heap) : Prop := ∃ (c : ClassId) (k : Class) (i : Nat) (f : Field) (a : Nat) (cell : Cell), U.vm.findClass C = some c ∧ U.fieldFound? C n d = some (c, k, i, f) ∧ f.isStatic = true ∧ k.statics = some a ∧ H[a]? = some cell ∧ cell.vm.isStatics = true ∧ cell.cls = c ∧ f.slot < cell.slots.size ∧ k.staticTypes[f.slot]? = some f.type ∧ ¬ A a
theorem vx_L.moved {C n d : String} {A : Nat → Prop} {u U : State} {H : Heap} (hvm : u.vm.Alike U.vm) (h : vx_L C n d A u H) : vx_L C n d A U H := by
  obtain ⟨c, k, i, f, a, cell, h1, h2, h3, h4, h5, h6, h7, h8, h9, h10⟩ := h
  obtain ⟨k', hi', he⟩ := State.fieldFound?_setVm hvm h2
  exact ⟨c, k', i, f, a, cell, by rw [hvm.findClass]; exact h1, hi', h3, by rw [he]; exact h4, h5, h6, h7, h8, by rw [he]; exact h9, h10⟩
theorem vx_L.kept {C n d : String} {A : Nat → Prop} {U : State} {H H1 : Heap} (h : vx_L C n d A U H) (hq : ∀ a : Nat, a < H.size → ¬ A a → H1[a]? = H[a]?) : vx_L C n d A U H1 := by
  obtain ⟨c, k, i, f, a, cell, h1, h2, h3, h4, h5, h6, h7, h8, h9, h10⟩ := h
  exact ⟨c, k, i, f, a, cell, h1, h2, h3, h4, by rw [hq a (Array.getElem?_eq_some_iff.mp h5).1 h10]; exact h5, h6, h7, h8, h9, h10⟩
theorem vx_L.narrow {C n d : String} {A B : Nat → Prop} {U : State} {H : Heap} (h : vx_L C n d A U H) (hAB : ∀ q, B q → A q) : vx_L C n d B U H := by
  obtain ⟨c, k, i, f, a, cell, h1, h2, h3, h4, h5, h6, h7, h8, h9, h10⟩ := h
  exact ⟨c, k, i, f, a, cell, h1, h2, h3, h4, h5, h6, h7, h8, h9, fun z => h10 (hAB _ z)⟩
theorem vx_L.word {C n d : String} {A : Nat → Prop} {s : State} {args : Array Value} (h : vx_L C n d A s s.heap) : (Cond.laysStatic C n d).before args s = true := by
  obtain ⟨c, k, i, f, a, cell, h1, h2, h3, h4, h5, h6, h7, h8, h9, -⟩ := h
  show (Cond.laysStatic C n d).holds args s none s [] = true
  exact Cond.laysStatic_of h1 h2 h3 h4 h5 h6 h7 h8 h9
/-- .. and what it holds: null or some reference -/
def vx_Zq (C n d : String) (A : Nat → Prop) (U : State) (H : Heap) : Prop := va_Zq C n d A U H ∧ vx_L C n d A U H
theorem vx_Zq.moved {C n d : String} {A : Nat → Prop} {u U : State} {H : Heap} (hvm : u.vm.Alike U.vm) (h : vx_Zq C n d A u H) : vx_Zq C n d A U H := ⟨va_Zq.moved hvm h.1, vx_L.moved hvm h.2⟩
theorem vx_Zq.kept {C n d : String} {A : Nat → Prop} {U : State} {H H1 : Heap} (h : vx_Zq C n d A U H) (hq : ∀ a : Nat, a < H.size → ¬ A a → H1[a]? = H[a]?) : vx_Zq C n d A U H1 := ⟨va_Zq.kept h.1 hq, vx_L.kept h.2 hq⟩
theorem vx_Zq.narrow {C n d : String} {A B : Nat → Prop} {U : State} {H : Heap} (h : vx_Zq C n d A U H) (hAB : ∀ q, B q → A q) : vx_Zq C n d B U H := ⟨va_Zq.narrow h.1 hAB, vx_L.narrow h.2 hAB⟩
theorem vx_Zqof {args : Array Value} {s : State} {C n d : String} {A : Nat → Prop} (hl : (Cond.laysStatic C n d).before args s = true) (hini : (Cond.initialized C).before args s = true) (h : (Cond.isRef (.static C n d)).before args s = true) (hA : ∀ a : Nat, a < s.heap.size → ¬ A a) : vx_Zq C n d A s s.heap := by
  refine ⟨va_Zqof hl hini h hA, ?_⟩
  obtain ⟨c, k, i, f, a, cell, h1, h2, h3, h4, h5, h6, h7, h8, h9⟩ := Cond.laysStatic_spec hl
  exact ⟨c, k, i, f, a, cell, h1, h2, h3, h4, h5, h6, h7, h8, h9, hA a (Array.getElem?_eq_some_iff.mp h5).1⟩
theorem vx_isRef {C n d : String} {v : Value} {A : Nat → Prop} {s : State} {args : Array Value} (h : va_Z C n d v A s s.heap) (hv : v.isRef = true) : (Cond.isRef (.static C n d)).before args s = true := by
  obtain ⟨cf, kf, fi, f, a, cell, h1, h2, h3, h4, h5, h6, h7, -⟩ := h
  have he : (Term.static C n d).eval args s none [] s = some v := by
    simp [Term.eval, State.fieldNamed?, h1, h2, h4, h5, h6, h7]
  simp only [Cond.before, Cond.holds, Cond.value, he]
  cases v <;> simp_all [Value.isRef]
theorem vx_isRefq {C n d : String} {A : Nat → Prop} {s : State} {args : Array Value} (h : va_Zq C n d A s s.heap) : (Cond.isRef (.static C n d)).before args s = true := by
  rcases h with h | ⟨t, h⟩
  · exact vx_isRef h rfl
  · exact vx_isRef h rfl
/-- the same frame, seen from here: as if the method were called anew in this heap -/
theorem vx_rebase {T : State} (X : Stand p l e R s m args below meth c T locs cells slots) {R' : Room} (hf : R'.frames ≤ R.frames) (hl : R'.locals ≤ R.locals) (hc : cells + R'.cells ≤ R.cells) (hs : slots + R'.slots ≤ R.slots) :
    Stand p l e R' ((T.setVm s.vm).setFrames (.invoking m args :: below)) m args below meth c T [] 0 0 := by
  have htop : (T.setVm s.vm).topJava?.isSome := X.here.top
  have hF : ((T.setVm s.vm).setFrames (.invoking m args :: below)).frames = .invoking m args :: below := State.frames_setFrames _ (State.cur_lt_of_top htop)
  obtain ⟨g₀, hg0⟩ := Option.isSome_iff_exists.mp htop
  obtain ⟨r, hr⟩ := State.topJava?_eq_some.mp hg0
  have hl9 : e.platform.stackLimits (T.setVm s.vm).me = e.platform.stackLimits s.me := X.limits
  have hb9 : (T.setVm s.vm).me.stackBytes = s.me.stackBytes := X.bytes
  refine ⟨X.admits, X.cas, X.clock, hF, ?_, X.hears, X.method, X.code, X.here, X.tail, X.warmed, ?_, ?_, ?_⟩
  · have h := X.room
    have hU : ((T.setVm s.vm).setFrames (.invoking m args :: below)).localsInUse = s.localsInUse := by
      rw [State.localsInUse_invoking hF (meth := meth) (c := c) X.method X.code, State.localsInUse_invoking X.frames X.method X.code]
    simp only [State.hasRoom, Bool.and_eq_true, decide_eq_true_eq] at h ⊢
    obtain ⟨⟨⟨⟨h1, h2, h3, h4, h5, h6⟩, h7⟩, h8⟩, h9⟩ := h
    rw [X.frames, List.length_cons] at h2 h3
    have q1 := X.heapSize
    have q2 := X.used
    simp only [hF, hU, List.length_cons, State.stackLimits_setFrames, State.stackBytes_setFrames, hl9, hb9]
    refine ⟨⟨⟨⟨by omega, by omega, by omega, by omega, by omega, h6⟩, ?_⟩, ?_⟩, X.book⟩
    · show T.heap.size + R'.cells ≤ e.platform.maxCells
      omega
    · show T.slotsUsed + R'.slots ≤ e.platform.maxSlots
      omega
  · rw [State.stackLimits_setFrames]; rfl
  · rw [State.stackBytes_setFrames]; rfl
  · refine ⟨?_, Nat.le_refl _, Nat.le_refl _, ?_, ?_, fun a c9 h9 => ⟨c9, h9, rfl, rfl, fun _ _ => rfl⟩⟩
    · obtain ⟨t, ht, -⟩ := State.frames_cons hr
      show T.setVm s.vm = { ((T.setVm s.vm).setFrames (.invoking m args :: below)).setFrames (T.setVm s.vm).frames with heap := T.heap, slotsUsed := T.slotsUsed }
      rw [State.setFrames_setFrames, State.setFrames_self ht]
      rfl
    · show T.slotsUsed = T.slotsUsed + ((T.heap.toList.drop T.heap.size).map (·.slots.size)).sum
      rw [List.drop_eq_nil_of_le (Nat.le_of_eq Array.length_toList)]
      rfl
    · show ((T.heap.toList.drop T.heap.size).map (·.slots.size)).sum ≤ 0
      rw [List.drop_eq_nil_of_le (Nat.le_of_eq Array.length_toList)]
      exact Nat.le_refl _
/-- 'throw new E()': new; dup; invokespecial; athrow -/
theorem vx_throw0 {cc : ByteArray} {pc : Nat} (hexec : p.tables.exec = Jvm.exec) (hb : c.code = cc) (hl : l.stackTraces = false) {own cls : String} {names : List String} {ik ic mc ms : Nat} {A : Nat → Prop}
    (hown : s.vm.findClass own = some m.cls) (hcls : Bundle.fit cls = true) (hnames : ∀ n ∈ names, Bundle.fit n = true)
    (hk : (Cond.classLink own ik cls).before args s = true) (hini : (Cond.initialized cls).before args s = true) (hat : ∀ w ∈ vx_at0 own ic cls names, w.before args s = true)
    (hgood : ∀ w ∈ Cond.classLink own ik cls :: Cond.initialized cls :: vx_at0 own ic cls names, vx_ot w = true)
    (hU : vx_Zq Bundle.tN "UNASSIGNED_STACK" Bundle.steD A s s.heap) (hN : vx_Zq Bundle.tN "SUPPRESSED_SENTINEL" Bundle.listD A s s.heap) (hS : va_S A s.heap H locs) (hsize : ls.size = c.maxLocals)
    (d0 : decode cc pc = .ok (.new ik, 3)) (d3 : decode cc (pc + 3) = .ok (.dup, 1)) (d4 : decode cc (pc + 4) = .ok (.invokespecial ic, 3)) (d7 : decode cc (pc + 7) = .ok (.athrow, 1))
    (hout : ∀ x ∈ c.exceptionTable.toList, covers x (pc + 7) = false)
    (hRframes : names.length + 3 < R.frames) (hRlocals : (rest.map fun v => v.category).sum + (13 * (names.length + 1) + 42) ≤ R.locals) (hRcells : cells + 1 ≤ R.cells) (hRslots : slots + 6 ≤ R.slots) (hlocks : meth.locks = false)
    (hx : ∀ t : State, s.vm.Alike t.vm → H.size ≤ t.heap.size → (∀ q : Nat, q < H.size → t.heap[q]? = H[q]?) → XC cls s t)
    (hf : ∀ z ∈ locs, free z.base) (hc : cells + 1 ≤ mc) (hs : slots + 6 ≤ ms) :
    W p l e R s m args below meth c H locs cells slots (vx_MQ below Qc XC args s mc ms free) (F0 m pc ls rest) := by
  intro T hT X
  have htr : e.platform.stackTraces = false := (show e.platform.stackTraces = l.stackTraces by rw [X.admits.platform]).trans hl
  have Y := vx_rebase X (R' := { frames := R.frames, locals := R.locals, cells := 1, slots := 6 }) (Nat.le_refl _) (Nat.le_refl _) hRcells hRslots
  obtain ⟨s', hA⟩ : ∃ z, z = (T.setVm s.vm).setFrames (.invoking m args :: below) := ⟨_, rfl⟩
  rw [← hA] at Y
  have hvm : s'.vm = s.vm := by rw [hA]; rfl
  have hhp : s'.heap = H := by rw [hA]; exact hT
  have hW0 : s.WarmedH s'.vm := by rw [hvm]; exact State.WarmedH.refl s
  have hat' : ∀ w ∈ vx_at0 own ic cls names, w.before args s' = true := fun w hw => vx_ot_at hW0 hvm.symm (hgood w (List.mem_cons_of_mem _ (List.mem_cons_of_mem _ hw))) (hat w hw)
  have hk' : (Cond.classLink own ik cls).before args s' = true := vx_ot_at hW0 hvm.symm (hgood _ List.mem_cons_self) hk
  have hini' : (Cond.initialized cls).before args s' = true := vx_ot_at hW0 hvm.symm (hgood _ (List.mem_cons_of_mem _ List.mem_cons_self)) hini
  have hU' : vx_Zq Bundle.tN "UNASSIGNED_STACK" Bundle.steD A s' s'.heap := by rw [hhp]; exact vx_Zq.moved hW0.alike (hU.kept hS.2.1)
  have hN' : vx_Zq Bundle.tN "SUPPRESSED_SENTINEL" Bundle.listD A s' s'.heap := by rw [hhp]; exact vx_Zq.moved hW0.alike (hN.kept hS.2.1)
  have h : ∀ w ∈ Bundle.ownAtoms0 own ic cls names, w.before args s' = true := vx_own hat' (vx_isRefq hU'.1) (vx_isRefq hN'.1) hU'.2.word hN'.2.word
  have hown' : s'.vm.findClass own = some m.cls := by rw [hvm]; exact hown
  have hins : (Cond.instantiable cls 6).before args s' = true := h _ (by simp [Bundle.ownAtoms0])
  obtain ⟨vm₁, cX, kX, hfX, hkX, -, -, X₁, st1⟩ := Y.newCold hexec (own := own) (C := cls) (index := ik) (n := 6) hown' hk' hins hini'
    (g := F0 m pc ls rest) rfl (by rw [hb]; exact d0) (Nat.le_refl _) (Nat.le_refl _)
  generalize hT1 : (T.setVm vm₁).pushCell { cls := cX, slots := kX.instanceTypes.map defaultValue, vm := .none } = T1 at X₁ st1
  have hcat : (Value.ref T.heap.size).category = 1 := rfl
  have hcellA : T1.heap[T.heap.size]? = some (freshCell cX kX) := by rw [← hT1]; exact State.heap_pushCell_size _ _
  have d3' : decode c.code (pc + 3) = .ok (.dup, 1) := by rw [hb]; exact d3
  obtain ⟨U, hsteps, hrun, hend, hW, hsame, ce, hce, hO⟩ := X₁.ctorThrow0 hexec htr (own := own) (cls := cls) (names := names) (ic := ic) hown' hcls hnames h (fun x hx => nomatch hx) hfX hkX hcellA (by rw [hhp, hT]; exact Nat.le_refl _)
    (g := { method := m, pc := pc + 4, locals := ls, stack := .ref T.heap.size :: .ref T.heap.size :: rest, locked := none }) rfl hsize rfl rfl (rest := rest) rfl
    (by rw [hb]; exact d4) (by rw [hb]; exact d7) hout hRframes (by simp only [List.map_cons, List.sum_cons, hcat]; omega) hlocks
  obtain ⟨f1, f2⟩ := vx_frame hsame
  rw [hhp] at f1 f2
  have hWs : s.WarmedH U.vm := State.WarmedH.trans hW0 hW
  have hcl : s.vm.findClass cls = some ce.cls := by
    have h9 := hO.cls
    rw [hvm] at h9
    exact h9
  have hall : s.sameButNew ({ U with vm := s.vm } : State) locs mc ms := by
    subst hA
    obtain ⟨e1, e2⟩ := hsame
    rw [State.setFrames_setFrames] at e1
    have h2 : (T.setVm s.vm).sameButNew ({ U with vm := s.vm } : State) [] (0 + 1) (0 + 6) := ⟨e1, e2⟩
    have h3 := X.same.trans h2
    rw [List.append_nil] at h3
    exact h3.mono hc hs
  refine ⟨U, ?_, .threw T.heap.size, hrun, hend, Or.inr ⟨T.heap.size, rfl, cls, ce, locs, hx U hWs.alike f1 (fun q hq => f2 q hq (fun z hz => nomatch hz)), hce, hO.vm, hcl, hWs, hall, hf⟩⟩
  refine st1 _ ?_
  show Steps p.tables e below (T1.setTop { method := m, pc := pc + 3, locals := ls, stack := .ref T.heap.size :: rest, locked := none }) _
  jvm_step X₁.here [X₁.here.top, hexec, d3', Value.category]
  exact hsteps
/-- 'throw new E("text")': new; dup; ldc; invokespecial; athrow -/
theorem vx_throwS {cc : ByteArray} {pc : Nat} (hexec : p.tables.exec = Jvm.exec) (hb : c.code = cc) (hl : l.stackTraces = false) {own cls text : String} {names : List String} {ik is ic mc ms sa : Nat} {A : Nat → Prop}
    (hown : s.vm.findClass own = some m.cls) (hcls : Bundle.fit cls = true) (hnames : ∀ n ∈ names, Bundle.fit n = true)
    (hk : (Cond.classLink own ik cls).before args s = true) (hini : (Cond.initialized cls).before args s = true) (hstr : vk_R own is text sa s) (hat : ∀ w ∈ vx_atS own ic cls names, w.before args s = true)
    (hgood : ∀ w ∈ Cond.classLink own ik cls :: Cond.initialized cls :: vx_atS own ic cls names, vx_ot w = true)
    (hU : vx_Zq Bundle.tN "UNASSIGNED_STACK" Bundle.steD A s s.heap) (hN : vx_Zq Bundle.tN "SUPPRESSED_SENTINEL" Bundle.listD A s s.heap) (hS : va_S A s.heap H locs) (hsize : ls.size = c.maxLocals)
    (d0 : decode cc pc = .ok (.new ik, 3)) (d3 : decode cc (pc + 3) = .ok (.dup, 1)) (d4 : decode cc (pc + 4) = .ok (.ldc is, 2)) (d6 : decode cc (pc + 6) = .ok (.invokespecial ic, 3)) (d9 : decode cc (pc + 9) = .ok (.athrow, 1))
    (hout : ∀ x ∈ c.exceptionTable.toList, covers x (pc + 9) = false)
    (hRframes : names.length + 3 < R.frames) (hRlocals : (rest.map fun v => v.category).sum + (13 * (names.length + 1) + 43) ≤ R.locals) (hRcells : cells + 1 ≤ R.cells) (hRslots : slots + 6 ≤ R.slots) (hlocks : meth.locks = false)
    (hx : ∀ t : State, s.vm.Alike t.vm → H.size ≤ t.heap.size → (∀ q : Nat, q < H.size → t.heap[q]? = H[q]?) → XC cls s t)
    (hf : ∀ z ∈ locs, free z.base) (hc : cells + 1 ≤ mc) (hs : slots + 6 ≤ ms) :
    W p l e R s m args below meth c H locs cells slots (vx_MQ below Qc XC args s mc ms free) (F0 m pc ls rest) := by
  intro T hT X
  have htr : e.platform.stackTraces = false := (show e.platform.stackTraces = l.stackTraces by rw [X.admits.platform]).trans hl
  have Y := vx_rebase X (R' := { frames := R.frames, locals := R.locals, cells := 1, slots := 6 }) (Nat.le_refl _) (Nat.le_refl _) hRcells hRslots
  obtain ⟨s', hA⟩ : ∃ z, z = (T.setVm s.vm).setFrames (.invoking m args :: below) := ⟨_, rfl⟩
  rw [← hA] at Y
  have hvm : s'.vm = s.vm := by rw [hA]; rfl
  have hhp : s'.heap = H := by rw [hA]; exact hT
  have hW0 : s.WarmedH s'.vm := by rw [hvm]; exact State.WarmedH.refl s
  have hat' : ∀ w ∈ vx_atS own ic cls names, w.before args s' = true := fun w hw => vx_ot_at hW0 hvm.symm (hgood w (List.mem_cons_of_mem _ (List.mem_cons_of_mem _ hw))) (hat w hw)
  have hk' : (Cond.classLink own ik cls).before args s' = true := vx_ot_at hW0 hvm.symm (hgood _ List.mem_cons_self) hk
  have hini' : (Cond.initialized cls).before args s' = true := vx_ot_at hW0 hvm.symm (hgood _ (List.mem_cons_of_mem _ List.mem_cons_self)) hini
  have hU' : vx_Zq Bundle.tN "UNASSIGNED_STACK" Bundle.steD A s' s'.heap := by rw [hhp]; exact vx_Zq.moved hW0.alike (hU.kept hS.2.1)
  have hN' : vx_Zq Bundle.tN "SUPPRESSED_SENTINEL" Bundle.listD A s' s'.heap := by rw [hhp]; exact vx_Zq.moved hW0.alike (hN.kept hS.2.1)
  have h : ∀ w ∈ Bundle.ownAtoms own ic cls names, w.before args s' = true := vx_own hat' (vx_isRefq hU'.1) (vx_isRefq hN'.1) hU'.2.word hN'.2.word
  have hown' : s'.vm.findClass own = some m.cls := by rw [hvm]; exact hown
  have hins : (Cond.instantiable cls 6).before args s' = true := h _ (by simp [Bundle.ownAtoms])
  obtain ⟨vm₁, cX, kX, hfX, hkX, -, -, X₁, st1⟩ := Y.newCold hexec (own := own) (C := cls) (index := ik) (n := 6) hown' hk' hins hini'
    (g := F0 m pc ls rest) rfl (by rw [hb]; exact d0) (Nat.le_refl _) (Nat.le_refl _)
  generalize hT1 : (T.setVm vm₁).pushCell { cls := cX, slots := kX.instanceTypes.map defaultValue, vm := .none } = T1 at X₁ st1
  have hcat : (Value.ref T.heap.size).category = 1 := rfl
  have hcellA : T1.heap[T.heap.size]? = some (freshCell cX kX) := by rw [← hT1]; exact State.heap_pushCell_size _ _
  have d3' : decode c.code (pc + 3) = .ok (.dup, 1) := by rw [hb]; exact d3
  have d4' : decode c.code (pc + 4) = .ok (.ldc is, 2) := by rw [hb]; exact d4
  have hstr' : vk_R own is text sa s' := vk_R.warm hW0 hstr
  obtain ⟨U, hsteps, hrun, hend, hW, hsame, ce, hce, hO⟩ := X₁.ctorThrowS hexec htr (own := own) (cls := cls) (names := names) (ic := ic) hown' hcls hnames h (fun x hx => nomatch hx) hfX hkX hcellA (by rw [hhp, hT]; exact Nat.le_refl _) (msg := .ref sa) rfl
    (g := { method := m, pc := pc + 6, locals := ls, stack := .ref sa :: .ref T.heap.size :: .ref T.heap.size :: rest, locked := none }) rfl hsize rfl rfl (rest := rest) rfl
    (by rw [hb]; exact d6) (by rw [hb]; exact d9) hout hRframes (by simp only [List.map_cons, List.sum_cons, hcat]; omega) hlocks
  obtain ⟨f1, f2⟩ := vx_frame hsame
  rw [hhp] at f1 f2
  have hWs : s.WarmedH U.vm := State.WarmedH.trans hW0 hW
  have hcl : s.vm.findClass cls = some ce.cls := by
    have h9 := hO.cls
    rw [hvm] at h9
    exact h9
  have hall : s.sameButNew ({ U with vm := s.vm } : State) locs mc ms := by
    subst hA
    obtain ⟨e1, e2⟩ := hsame
    rw [State.setFrames_setFrames] at e1
    have h2 : (T.setVm s.vm).sameButNew ({ U with vm := s.vm } : State) [] (0 + 1) (0 + 6) := ⟨e1, e2⟩
    have h3 := X.same.trans h2
    rw [List.append_nil] at h3
    exact h3.mono hc hs
  refine ⟨U, ?_, .threw T.heap.size, hrun, hend, Or.inr ⟨T.heap.size, rfl, cls, ce, locs, hx U hWs.alike f1 (fun q hq => f2 q hq (fun z hz => nomatch hz)), hce, hO.vm, hcl, hWs, hall, hf⟩⟩
  refine st1 _ ?_
  show Steps p.tables e below (T1.setTop { method := m, pc := pc + 3, locals := ls, stack := .ref T.heap.size :: rest, locked := none }) _
  jvm_step X₁.here [X₁.here.top, hexec, d3', Value.category]
  exact X₁.ldcString hexec (own := own) (text := text) (index := is) (a := sa) hown' hstr'.1 hstr'.2
    (g := { method := m, pc := pc + 4, locals := ls, stack := .ref T.heap.size :: .ref T.heap.size :: rest, locked := none }) rfl d4' _ hsteps
/-- 'throw new E("text")', the text by a wide index -/
theorem vx_throwSW {cc : ByteArray} {pc : Nat} (hexec : p.tables.exec = Jvm.exec) (hb : c.code = cc) (hl : l.stackTraces = false) {own cls text : String} {names : List String} {ik is ic mc ms sa : Nat} {A : Nat → Prop}
    (hown : s.vm.findClass own = some m.cls) (hcls : Bundle.fit cls = true) (hnames : ∀ n ∈ names, Bundle.fit n = true)
    (hk : (Cond.classLink own ik cls).before args s = true) (hini : (Cond.initialized cls).before args s = true) (hstr : vk_R own is text sa s) (hat : ∀ w ∈ vx_atS own ic cls names, w.before args s = true)
    (hgood : ∀ w ∈ Cond.classLink own ik cls :: Cond.initialized cls :: vx_atS own ic cls names, vx_ot w = true)
    (hU : vx_Zq Bundle.tN "UNASSIGNED_STACK" Bundle.steD A s s.heap) (hN : vx_Zq Bundle.tN "SUPPRESSED_SENTINEL" Bundle.listD A s s.heap) (hS : va_S A s.heap H locs) (hsize : ls.size = c.maxLocals)
    (d0 : decode cc pc = .ok (.new ik, 3)) (d3 : decode cc (pc + 3) = .ok (.dup, 1)) (d4 : decode cc (pc + 4) = .ok (.ldc_w is, 3)) (d7 : decode cc (pc + 7) = .ok (.invokespecial ic, 3)) (d10 : decode cc (pc + 10) = .ok (.athrow, 1))
    (hout : ∀ x ∈ c.exceptionTable.toList, covers x (pc + 10) = false)
    (hRframes : names.length + 3 < R.frames) (hRlocals : (rest.map fun v => v.category).sum + (13 * (names.length + 1) + 43) ≤ R.locals) (hRcells : cells + 1 ≤ R.cells) (hRslots : slots + 6 ≤ R.slots) (hlocks : meth.locks = false)
    (hx : ∀ t : State, s.vm.Alike t.vm → H.size ≤ t.heap.size → (∀ q : Nat, q < H.size → t.heap[q]? = H[q]?) → XC cls s t)
    (hf : ∀ z ∈ locs, free z.base) (hc : cells + 1 ≤ mc) (hs : slots + 6 ≤ ms) :
    W p l e R s m args below meth c H locs cells slots (vx_MQ below Qc XC args s mc ms free) (F0 m pc ls rest) := by
  intro T hT X
  have htr : e.platform.stackTraces = false := (show e.platform.stackTraces = l.stackTraces by rw [X.admits.platform]).trans hl
  have Y := vx_rebase X (R' := { frames := R.frames, locals := R.locals, cells := 1, slots := 6 }) (Nat.le_refl _) (Nat.le_refl _) hRcells hRslots
  obtain ⟨s', hA⟩ : ∃ z, z = (T.setVm s.vm).setFrames (.invoking m args :: below) := ⟨_, rfl⟩
  rw [← hA] at Y
  have hvm : s'.vm = s.vm := by rw [hA]; rfl
  have hhp : s'.heap = H := by rw [hA]; exact hT
  have hW0 : s.WarmedH s'.vm := by rw [hvm]; exact State.WarmedH.refl s
  have hat' : ∀ w ∈ vx_atS own ic cls names, w.before args s' = true := fun w hw => vx_ot_at hW0 hvm.symm (hgood w (List.mem_cons_of_mem _ (List.mem_cons_of_mem _ hw))) (hat w hw)
  have hk' : (Cond.classLink own ik cls).before args s' = true := vx_ot_at hW0 hvm.symm (hgood _ List.mem_cons_self) hk
  have hini' : (Cond.initialized cls).before args s' = true := vx_ot_at hW0 hvm.symm (hgood _ (List.mem_cons_of_mem _ List.mem_cons_self)) hini
  have hU' : vx_Zq Bundle.tN "UNASSIGNED_STACK" Bundle.steD A s' s'.heap := by rw [hhp]; exact vx_Zq.moved hW0.alike (hU.kept hS.2.1)
  have hN' : vx_Zq Bundle.tN "SUPPRESSED_SENTINEL" Bundle.listD A s' s'.heap := by rw [hhp]; exact vx_Zq.moved hW0.alike (hN.kept hS.2.1)
  have h : ∀ w ∈ Bundle.ownAtoms own ic cls names, w.before args s' = true := vx_own hat' (vx_isRefq hU'.1) (vx_isRefq hN'.1) hU'.2.word hN'.2.word
  have hown' : s'.vm.findClass own = some m.cls := by rw [hvm]; exact hown
  have hins : (Cond.instantiable cls 6).before args s' = true := h _ (by simp [Bundle.ownAtoms])
  obtain ⟨vm₁, cX, kX, hfX, hkX, -, -, X₁, st1⟩ := Y.newCold hexec (own := own) (C := cls) (index := ik) (n := 6) hown' hk' hins hini'
    (g := F0 m pc ls rest) rfl (by rw [hb]; exact d0) (Nat.le_refl _) (Nat.le_refl _)
  generalize hT1 : (T.setVm vm₁).pushCell { cls := cX, slots := kX.instanceTypes.map defaultValue, vm := .none } = T1 at X₁ st1
  have hcat : (Value.ref T.heap.size).category = 1 := rfl
  have hcellA : T1.heap[T.heap.size]? = some (freshCell cX kX) := by rw [← hT1]; exact State.heap_pushCell_size _ _
  have d3' : decode c.code (pc + 3) = .ok (.dup, 1) := by rw [hb]; exact d3
  have d4' : decode c.code (pc + 4) = .ok (.ldc_w is, 3) := by rw [hb]; exact d4
  have hstr' : vk_R own is text sa s' := vk_R.warm hW0 hstr
  obtain ⟨U, hsteps, hrun, hend, hW, hsame, ce, hce, hO⟩ := X₁.ctorThrowS hexec htr (own := own) (cls := cls) (names := names) (ic := ic) hown' hcls hnames h (fun x hx => nomatch hx) hfX hkX hcellA (by rw [hhp, hT]; exact Nat.le_refl _) (msg := .ref sa) rfl
    (g := { method := m, pc := pc + 7, locals := ls, stack := .ref sa :: .ref T.heap.size :: .ref T.heap.size :: rest, locked := none }) rfl hsize rfl rfl (rest := rest) rfl
    (by rw [hb]; exact d7) (by rw [hb]; exact d10) hout hRframes (by simp only [List.map_cons, List.sum_cons, hcat]; omega) hlocks
  obtain ⟨f1, f2⟩ := vx_frame hsame
  rw [hhp] at f1 f2
  have hWs : s.WarmedH U.vm := State.WarmedH.trans hW0 hW
  have hcl : s.vm.findClass cls = some ce.cls := by
    have h9 := hO.cls
    rw [hvm] at h9
    exact h9
  have hall : s.sameButNew ({ U with vm := s.vm } : State) locs mc ms := by
    subst hA
    obtain ⟨e1, e2⟩ := hsame
    rw [State.setFrames_setFrames] at e1
    have h2 : (T.setVm s.vm).sameButNew ({ U with vm := s.vm } : State) [] (0 + 1) (0 + 6) := ⟨e1, e2⟩
    have h3 := X.same.trans h2
    rw [List.append_nil] at h3
    exact h3.mono hc hs
  refine ⟨U, ?_, .threw T.heap.size, hrun, hend, Or.inr ⟨T.heap.size, rfl, cls, ce, locs, hx U hWs.alike f1 (fun q hq => f2 q hq (fun z hz => nomatch hz)), hce, hO.vm, hcl, hWs, hall, hf⟩⟩
  refine st1 _ ?_
  show Steps p.tables e below (T1.setTop { method := m, pc := pc + 3, locals := ls, stack := .ref T.heap.size :: rest, locked := none }) _
  jvm_step X₁.here [X₁.here.top, hexec, d3', Value.category]
  exact X₁.ldcStringW hexec (own := own) (text := text) (index := is) (a := sa) hown' hstr'.1 hstr'.2
    (g := { method := m, pc := pc + 4, locals := ls, stack := .ref T.heap.size :: .ref T.heap.size :: rest, locked := none }) rfl d4' _ hsteps
end Ends
section Bodies
variable {l : Launch}
theorem vx_ofW {y : MethodName} {ws ws' : List Cond} {rm : Room} {Pc : Array Value → State → Prop} {Qc : Array Value → State → Outcome → State → Prop} {XC : String → State → State → Prop} {mc ms : Nat} {free : Addr → Prop} {cc : ByteArray} {maxL : Nat} {ret : Option FieldType}
    (hy : plainName y.cls = true) (hw : ws = Cond.code y cc maxL ret :: ws')
    (body : ∀ p e s m args below meth c s₁, BodyLoose p l y (headSpec ws rm) cc maxL ret e s m args below meth c s₁ → c.maxLocals = maxL → (∀ x ∈ c.exceptionTable.toList, False) → Pc args s →
      W p l e (headSpec ws rm).room s m args below meth c s.heap [] 0 0 (vx_MQ below Qc XC args s mc ms free) (entryFrame m args maxL)) : vx_Met l y ws rm Pc Qc XC mc ms free := by
  refine MetFree.of_bodyS (code := cc) (maxLocals := maxL) (ret := ret) hy ?_ ?_
  · intro args s m h hn
    obtain ⟨meth, c, h1, h2, h3, h4, h5, h6, -, -⟩ := Cond.code_spec hn (atoms_spec (ws := ws) h _ (by rw [hw]; exact List.mem_cons_self))
    exact ⟨meth, c, h1, h2, h3, h4, h5, h6⟩
  · intro p e s m args below meth c s₁ B hml hP _
    have hh0 : s₁.heap = s.heap := by rw [B.state]; rfl
    have ht : ∀ x ∈ c.exceptionTable.toList, False := by
      obtain ⟨meth9, c9, h1, h2, -, -, -, -, h7, -⟩ := Cond.code_spec B.named (atoms_spec (ws := ws) B.pre _ (by rw [hw]; exact List.mem_cons_self))
      cases Option.some.inj (h1.symm.trans B.method)
      cases Option.some.inj (h2.symm.trans (Stand.of_body B).code)
      intro x hx
      rw [Array.isEmpty_iff.mp h7] at hx
      cases hx
    obtain ⟨t, a1, o, b1, b2, b3⟩ := body p e s m args below meth c s₁ B hml ht hP s₁ hh0 (Stand.of_body B)
    exact ⟨t, o, a1, b1, b2, b3⟩
/-- the table of a body with handlers -/
theorem vx_table {p : Program} {x y : MethodName} {S : Spec} {cc bytes : ByteArray} {maxL maxL' : Nat} {ret ret' : Option FieldType} {e : Env} {s s₁ : State} {m : MethodId} {args : Array Value} {below : List Frame} {meth : Method} {c : Code} {hh : List (Nat × Nat × Nat × Nat)}
    (B : BodyLoose p l y S cc maxL ret e s m args below meth c s₁) (h : (Cond.codeWith y bytes maxL' ret' hh).before args s = true) : c.exceptionTable.toList = tableOf hh := by
  obtain ⟨m9, meth9, c9, hn9, h1, h2, -, -, h6, -⟩ := Cond.codeWith_spec h
  cases Option.some.inj (hn9.symm.trans B.named)
  cases Option.some.inj (h1.symm.trans B.method)
  cases Option.some.inj (h2.symm.trans (Stand.of_body B).code)
  rw [← h6, table_eq]
end Bodies
end VXA
/-! ===== END ===== -/
/-! ===== BEGIN a static call of a method with an exception table ===== -/
section VXS
variable {p : Program} {l : Launch} {e : Env} {R : Room} {s : State} {m : MethodId} {args : Array Value} {below : List Frame} {meth : Method} {c : Code} {T : State} {H : Heap} {locs : List Loc} {cells slots : Nat}
abbrev vx_CSW (R : Room) (s : State) (args : Array Value) (own : String) (index : Nat) (y : MethodName) (bytes : ByteArray) (maxL : Nat) (ret : Option FieldType) (hh : List (Nat × Nat × Nat × Nat)) (ws : List Cond) (rm : Room) (mc ms n : Nat) : Prop :=
  (rm.cells = mc ∧ rm.slots = ms ∧ rm.frames + 1 ≤ R.frames ∧ 8 + (maxL + 11) + rm.locals ≤ R.locals ∧ (∀ w ∈ ws, ∀ (a' : Array Value) (U : State), s.WarmedH U.vm → w.before a' U = true) ∧ Cond.codeWith y bytes maxL ret hh ∈ ws) ∧
  (Cond.codeWith y bytes maxL ret hh).before args s = true ∧ (Cond.initialized y.cls).before args s = true ∧ (y.cls ≠ "java/lang/invoke/MethodHandle" ∧ y.cls ≠ "java/lang/invoke/VarHandle") ∧
  (∀ sig, parseMethodDescriptor y.desc = some sig → n = sig.parameters.length) ∧ (Cond.methodLink own index y).before args s = true ∧ (Cond.static y).before args s = true
theorem vx_cwSW {own : String} {index maxL mc ms : Nat} {y : MethodName} {bytes : ByteArray} {ret : Option FieldType} {hh : List (Nat × Nat × Nat × Nat)} {Ts ws ws' : List Cond} {rm : Room} (n : Nat) (ht : ∀ w ∈ Ts, w.before args s = true) (hT : GoodIn Ts (va_wsS own index y ws)) (hw : ws = Cond.codeWith y bytes maxL ret hh :: ws') (hrc : rm.cells = mc) (hrs : rm.slots = ms)
    (hd : y.cls ≠ "java/lang/invoke/MethodHandle" ∧ y.cls ≠ "java/lang/invoke/VarHandle" ∧ (parseMethodDescriptor y.desc).map (fun d => d.parameters.length) = some n) (hR : rm.frames + 1 ≤ R.frames ∧ 8 + (maxL + 11) + rm.locals ≤ R.locals) :
    vx_CSW R s args own index y bytes maxL ret hh ws rm mc ms n := by
  have ok : ∀ w ∈ va_wsS own index y ws, w.before args s = true := fun w h => ht w (hT w h).1
  have hG : GoodIn Ts ws := fun w h => hT w (by unfold va_wsS; exact List.mem_append_right _ h)
  have hc : Cond.codeWith y bytes maxL ret hh ∈ ws := by rw [hw]; exact List.mem_cons_self
  refine ⟨⟨hrc, hrs, hR.1, hR.2, pay_in ht hG, hc⟩, ht _ (hG _ hc).1, ok _ (by simp [va_wsS]), ⟨hd.1, hd.2.1⟩, fun sig h => ?_, ok _ (by simp [va_wsS]), ok _ (by simp [va_wsS])⟩
  have h2 := hd.2.2
  rw [h] at h2
  exact (Option.some.inj h2).symm
theorem vx_callSW (X : Stand p l e R s m args below meth c T locs cells slots) (hexec : p.tables.exec = Jvm.exec) {own : String} {index : Nat} {y : MethodName} {bytes : ByteArray} {maxL : Nat} {ret : Option FieldType} {hh : List (Nat × Nat × Nat × Nat)}
    (hown : s.vm.findClass own = some m.cls) (hlink : (Cond.methodLink own index y).before args s = true) (hstat : (Cond.static y).before args s = true) (hinit : (Cond.initialized y.cls).before args s = true)
    (hcode : (Cond.codeWith y bytes maxL ret hh).before args s = true) (hy : y.cls ≠ "java/lang/invoke/MethodHandle" ∧ y.cls ≠ "java/lang/invoke/VarHandle")
    {W9 : Nat} {Pre : Pt → Array Value → Prop} {Post : Pt → Array Value → Option Value → Pt → Prop} (hK : Back l R p e below s args y 3 W9 Pre Post)
    {g : JFrame} (hg : g.method = m) (hsize : g.locals.size = c.maxLocals) {argsL rest : List Value} (hlen : ∀ sig, parseMethodDescriptor y.desc = some sig → argsL.length = sig.parameters.length)
    (hstack : g.stack = argsL.reverse ++ rest) (hW : 2 * g.monitorRoom + (rest.map fun v => v.category).sum ≤ W9) (hdg : decode c.code g.pc = .ok (.invokestatic index, 3))
    (hpre : ∀ vm₁, s.WarmedH vm₁ → Pre ⟨T.setVm vm₁, locs, cells, slots⟩ argsL.toArray) :
    ∃ (v : Option Value) (vm₁ : Vm) (B : Pt), s.WarmedH vm₁ ∧ Stand p l e R s m args below meth c B.U B.locs B.cells B.slots ∧ Post ⟨T.setVm vm₁, locs, cells, slots⟩ argsL.toArray v B ∧
      ∀ target, Steps p.tables e below (B.U.setTop { g with pc := g.pc + 3, stack := v.toList ++ rest }) target → Steps p.tables e below (T.setTop g) target := by
  obtain ⟨mk, methM, cM, hnamed, hmethM, -, -, -, -, -, -, hsigM⟩ := Cond.codeWith_spec hcode
  have hstatic : methM.isStatic = true := Cond.static_spec hnamed hmethM hstat
  obtain ⟨kP, hkP, -⟩ := className_of_methodNamed hnamed
  have hinitP : kP.init = .initialized := Cond.initialized_spec (findClass_of_methodNamed hnamed) hkP hinit
  obtain ⟨vm₁, X₁, hstep₁⟩ := X.invokestatic hexec hown hlink hnamed hmethM hstatic hkP hinitP hy (g := g) hg (argsL := argsL) (rest := rest) (hlen _ hsigM) hstack hdg
  obtain ⟨v, B, X', hpost, hsteps⟩ := hK m meth c ⟨T.setVm vm₁, locs, cells, slots⟩ { g with stack := rest } (.invokestatic index) mk argsL.toArray X₁ hg hsize hdg hW (X₁.named hnamed) (hpre vm₁ X₁.warmed)
  exact ⟨v, vm₁, B, X₁.warmed, X', hpost, fun target h => hstep₁ _ fun acts => by rw [doInvoke_state]; exact hsteps.trans h⟩
theorem vx_runSW {y : MethodName} {bytes cc : ByteArray} {maxL nL mc ms n index : Nat} {ret : Option FieldType} {hh : List (Nat × Nat × Nat × Nat)} {ws : List Cond} {rm : Room} {Pc : Array Value → State → Prop} {Qc : Array Value → State → Outcome → State → Prop} {free : Addr → Prop} {Ts : List Cond} {own : String} {As rest : List Value} {g : JFrame}
    (S : CallFix p m c cc nL s args Ts own) (hM : Met l y ws rm Pc Qc mc ms free) (cw : vx_CSW R s args own index y bytes maxL ret hh ws rm mc ms n) (hp : PreS s H Pc As)
    (hg : g.method = m) (hn : As.length = n) (hsize : g.locals.size = nL) (hstack : g.stack = As.reverse ++ rest) (hW : 2 * g.monitorRoom + (rest.map fun v => v.category).sum ≤ 8) (hdg : decode cc g.pc = .ok (.invokestatic index, 3)) (hf : cells + mc ≤ R.cells ∧ slots + ms ≤ R.slots) :
    va_Run p l e R s m args below meth c H locs cells slots mc ms g rest (Qc As.toArray) (free) := by
  obtain ⟨⟨hrc, hrs, hfr, hlo, hws, hcw⟩, hcode, hini, hy, hlen, hl, hstt⟩ := cw
  have hK : Back l R p e below s args y 3 8 (PreOf R mc ms Pc) (PostOf Qc mc ms free) := va_backW (hh := hh) (bytes := bytes) (maxL := maxL) (ret := ret) hM hp.1 hrc hrs hfr hlo hws hcw (fun a' U hW => word_at hW (Or.inl (by first | rfl | simp [Cond.onTables, Cond.keeps, Cond.steady])) hini)
  obtain ⟨hx, hb, hml, ho, -⟩ := S
  intro T hT X
  obtain ⟨v, vm₁, ⟨U', l2, c2, s2⟩, hW₁, X', ⟨g', mk, t, L, e1, e2, hq, h1, hL, h2, h3⟩, st⟩ := vx_callSW X hx (hh := hh) (bytes := bytes) (maxL := maxL) (ret := ret) ho hl hstt hini hcode hy hK hg (hsize.trans hml.symm) (argsL := As) (rest := rest) (fun sig h => hn.trans (hlen sig h)) hstack hW (by rw [hb]; exact hdg)
    (fun vm₁ hW₁ => ⟨hf.1, hf.2, hp.2 (T.setVm vm₁) hT hW₁⟩)
  dsimp only [Pt.U, Pt.locs, Pt.cells, Pt.slots] at X' e1 e2 h1 h2 h3 st
  subst h1; subst h2; subst h3
  exact ⟨v, (T.setVm vm₁).calling g' mk As.toArray, t, U', L, hT, X', hL, e1, e2, hq, st⟩
/-- not caught here, past rows that name other classes: it goes on to the caller -/
theorem vx_outP {p : Program} {l : Launch} {e : Env} {R : Room} {s : State} {m : MethodId} {args : Array Value} {below : List Frame} {meth : Method} {c : Code} {H : Heap} {locs : List Loc} {cells slots : Nat} {free : Addr → Prop} {ls : Array Slot} {rest : List Value} {Qc : Array Value → State → Outcome → State → Prop} {XC : String → State → State → Prop}
    {pc : Nat} {own E : String} {ce : Cell} {q : Addr} {mc ms : Nat} (hown : s.vm.findClass own = some m.cls) (hlocks : meth.locks = false)
    (hpass : ∀ z ∈ c.exceptionTable.toList, covers z pc = false ∨ (z.catchType ≠ 0 ∧ ∃ nm : String, (Cond.classLink own z.catchType nm).before args s = true ∧ va_Nc E nm s)) (hcell : H[q]? = some ce) (hv : ce.vm = .none) (hcl : s.vm.findClass E = some ce.cls)
    (hx : ∀ t : State, t.heap = H → s.vm.Alike t.vm → XC E s t) (hf : ∀ z ∈ locs, free z.base) (hc : cells ≤ mc) (hs : slots ≤ ms) :
    vx_W p l e R s m args below meth c H locs cells slots (vx_MQ below Qc XC args s mc ms free) (F0 m pc ls rest) q := by
  intro T hT X
  have hpl : e.platform.magicAccessors = ({} : Platform).magicAccessors := by rw [X.admits.platform]
  obtain ⟨vm', hW', X', st⟩ := X.outThrough hlocks q (g := F0 m pc ls rest) rfl rfl rfl (cell := ce) (by rw [hT]; exact hcell) (by rw [hv]; rfl)
    (by obtain ⟨k9, h9, -⟩ := Vm.findClass_spec hcl; exact ⟨k9, h9⟩) (fun z hz => by
      rcases hpass z hz with h | ⟨hz0, nm, hl1, hn1⟩
      · exact Or.inl h
      · obtain ⟨c6, hc6, hcl6⟩ := Cond.classLink_spec hown hl1 e.platform hpl
        obtain ⟨a8, b8, h1, h2, h3⟩ := hn1
        cases Option.some.inj (h1.symm.trans hcl)
        cases Option.some.inj (h2.symm.trans hc6)
        exact Or.inr ⟨hz0, _, hcl6, h3⟩)
  obtain ⟨g₀, hfr⟩ := X'.frames_eq
  have hcell9 : ((T.setVm vm').setFrames (.throwing q :: below)).heap[q]? = some ce := by
    show T.heap[q]? = some ce
    rw [hT]; exact hcell
  have hend : Ended ((T.setVm vm').setFrames (.throwing q :: below)) below (.threw q) := State.frames_setFrames _ (State.cur_lt_of_frames hfr)
  refine ⟨(T.setVm vm').setFrames (.throwing q :: below), ?_, .threw q, X'.here.running, hend, Or.inr ⟨q, rfl, E, ce, locs, hx _ hT (X'.ends _).1.alike, hcell9, hv, hcl, (X'.ends _).1, (X'.ends _).2.mono hc hs, hf⟩⟩
  rw [X.pushThrowing_eq]
  exact st
/-- a thing of a world lies in the heap -/
theorem vx_lt {D : va_G} {cl : List vw_C} {ws : va_W} {H1 : Heap} (h : va_P D cl ws H1) {k : Nat} {q : Nat × va_E} (hk : ws[k]? = some q) : q.1 < H1.size := (h k q hk).lt
end VXS
/-! ===== END ===== -/
/-! ===== BEGIN methods with a table of their own: called by a name, returning or throwing ===== -/
section VXH
/-! vx_backW, vx_callVX, vx_callSX, vx_callVW, vx_runVW, vx_runVX, vx_runSX, vx_ofWH follow the same proofs as their sisters above (Free/Laws.lean, Shelf42/LK1.lean); vx_outP calls Shelf42/NT130.lean (outThrough). -/
section
variable {l : Launch} {R : Room} {p : Program} {e : Env} {below : List Frame} {s : State} {sargs : Array Value} {y : MethodName} {len W9 : Nat}
theorem vx_backW {ws : List Cond} {rm : Room} {Pc : Array Value → State → Prop} {Qc : Array Value → State → Outcome → State → Prop} {XC : String → State → State → Prop} {mc ms : Nat} {free : Addr → Prop} {bytes : ByteArray} {maxL : Nat} {ret : Option FieldType} {hh : List (Nat × Nat × Nat × Nat)}
    (hM : vx_Met l y ws rm Pc Qc XC mc ms free) (hblind : FrameBlind Pc) (hrc : rm.cells = mc) (hrs : rm.slots = ms)
    (hframes : rm.frames + 1 ≤ R.frames) (hlocals : W9 + (maxL + 11) + rm.locals ≤ R.locals)
    (hws : ∀ w ∈ ws, ∀ a' U, s.WarmedH U.vm → w.before a' U = true) (hcode : Cond.codeWith y bytes maxL ret hh ∈ ws) (hinit : ∀ a' U, s.WarmedH U.vm → (Cond.initialized y.cls).before a' U = true) :
    vx_Back l R p e below s sargs y len W9 (PreOf R mc ms Pc) (PostOf Qc mc ms free) (vx_Post XC mc ms free) := by
  intro m meth c A g ig mk a X hg hsize hdg hW hn hp
  have h1 : (headSpec ws rm).pre.before a A.U = true := atoms_intro fun w hw => hws w hw _ _ X.warmed
  have h2 : (Cond.codeWith y bytes maxL ret hh).before a A.U = true := hws _ hcode _ _ X.warmed
  have h3 : (Cond.initialized y.cls).before a A.U = true := hinit _ _ X.warmed
  have h4 : A.cells + (headSpec ws rm).room.cells ≤ R.cells := by rw [show (headSpec ws rm).room.cells = mc from hrc]; exact hp.1
  have h5 : A.slots + (headSpec ws rm).room.slots ≤ R.slots := by rw [show (headSpec ws rm).room.slots = ms from hrs]; exact hp.2.1
  have hPc : Pc a (A.U.calling g mk a) := hblind _ _ _ _ hp.2.2
  obtain ⟨U, Ls, c0, s0⟩ := A
  dsimp only [Pt.U, Pt.locs, Pt.cells, Pt.slots] at h1 h2 h3 h4 h5 X hn hPc ⊢
  obtain ⟨m9, methY, cY, hn9, hmY, hcY, -, hlY, -⟩ := Cond.codeWith_spec h2
  cases Option.some.inj (hn9.symm.trans hn)
  obtain ⟨kY, hkY, -⟩ := className_of_methodNamed hn
  have hinitY : kY.init = .initialized := Cond.initialized_spec (findClass_of_methodNamed hn) hkY h3
  have h : At U g.method c below := by rw [hg]; exact X.here
  have hlocals9 : W9 + (maxL + 11) + (headSpec ws rm).room.locals ≤ R.locals := hlocals
  have happ : (headSpec ws rm).appliesLoose y e.platform (U.calling g mk a) = true :=
    Spec.appliesLoose_calling (g := g) h hdg hn hkY hinitY
      (X.room_calling (g := g) (R' := (headSpec ws rm).room) hsize hmY hcY hframes (by rw [hlY]; omega) h4 h5) h1
  obtain ⟨mid, hmid⟩ := h.above
  have hfr : (U.setTop g).frames = (.java g :: mid) ++ below := by rw [State.frames_setTop' g h.top, hmid]; rfl
  obtain ⟨o, s₂, hsteps, -, hend, hq⟩ := Steps.callFree hM p X.admits X.cas X.clock (acts := []) hfr happ hPc trivial
  have hq' : vx_Q Qc XC mc ms free a (U.calling g mk a) o s₂ := hq
  rw [State.frames_setTop' g h.top] at hend
  obtain ⟨g₀, hg0⟩ := Option.isSome_iff_exists.mp h.top
  obtain ⟨r, hr⟩ := State.topJava?_eq_some.mp hg0
  have hr' : (({ U with heap := s₂.heap, slotsUsed := s₂.slotsUsed } : State).setVm s₂.vm).frames = .java g₀ :: r := hr
  rcases hq' with ⟨hqc, L, hfe, hL⟩ | ⟨q, rfl, E, ce, L, hx, hce, hcv, hcl, hW₂, hsm, hL⟩
  · obtain ⟨⟨v, rfl⟩, hW₂, e2, q2, q3, q4, q5, q6⟩ := id hfe
    have e3 : s₂ = ({ (U.calling g mk a).setFrames s₂.frames with heap := s₂.heap, slotsUsed := s₂.slotsUsed } : State).setVm s₂.vm := by
      have : s₂ = ({ s₂ with vm := (U.calling g mk a).vm } : State).setVm s₂.vm := rfl
      rw [e2] at this
      exact this
    obtain ⟨c₂, i₂, len₂, hc₂, hd₂, hf₂⟩ := hend
    have hW' : U.WarmedH s₂.vm := hW₂
    have hcc : c₂ = c := by
      have h1 : s₂.code? g.method = U.code? g.method := by
        rw [State.code?_eq, State.code?_eq, hW'.alike.method?]
      exact Option.some.inj (hc₂.symm.trans (h1.trans h.code))
    subst hcc
    have hlen : len₂ = len := by rw [hdg] at hd₂; cases hd₂; rfl
    subst hlen
    have hs₂ : s₂ = (({ U with heap := s₂.heap, slotsUsed := s₂.slotsUsed } : State).setVm s₂.vm).setTop { g with pc := g.pc + len₂, stack := v.toList ++ g.stack } := by
      refine e3.trans ?_
      rw [hf₂, State.calling_eq h.top, State.setFrames_setFrames, State.setTop_of_frames _ hr', hr]
      rfl
    have hsame : U.sameButNew ({ U with heap := s₂.heap, slotsUsed := s₂.slotsUsed } : State) L mc ms := by
      refine ⟨?_, q2, q3, q4, q5, q6⟩
      obtain ⟨t, ht, -⟩ := State.frames_cons hr
      show ({ U with heap := s₂.heap, slotsUsed := s₂.slotsUsed } : State) = { U.setFrames U.frames with heap := s₂.heap, slotsUsed := s₂.slotsUsed }
      rw [State.setFrames_self ht]
    subst hg
    refine Or.inl ⟨v, ⟨(({ U with heap := s₂.heap, slotsUsed := s₂.slotsUsed } : State).setVm s₂.vm), Ls ++ L, c0 + mc, s0 + ms⟩,
      ⟨X.admits, X.cas, X.clock, X.frames, X.room, X.hears, X.method, X.code, (X.here.setHeapUsed s₂.heap s₂.slotsUsed).setVm hW'.alike, X.tail, State.WarmedH.trans X.warmed hW', X.limits, X.bytes, X.same.trans (hsame.setVm s.vm)⟩,
      ⟨g, mk, s₂, L, rfl, rfl, hqc, rfl, hL, rfl, rfl⟩, ?_⟩
    show Steps p.tables e below _ ((({ U with heap := s₂.heap, slotsUsed := s₂.slotsUsed } : State).setVm s₂.vm).setTop { g with pc := g.pc + len₂, stack := v.toList ++ g.stack })
    rw [← hs₂]
    exact hsteps
  · obtain ⟨e2, q2, q3, q4, q5, q6⟩ := id hsm
    have e3 : s₂ = ({ (U.calling g mk a).setFrames s₂.frames with heap := s₂.heap, slotsUsed := s₂.slotsUsed } : State).setVm s₂.vm := by
      have : s₂ = ({ s₂ with vm := (U.calling g mk a).vm } : State).setVm s₂.vm := rfl
      rw [e2] at this
      exact this
    have hf₂ : s₂.frames = .throwing q :: .java g :: U.frames.tail := hend
    have hW' : U.WarmedH s₂.vm := hW₂
    have hs₂ : s₂ = ((({ U with heap := s₂.heap, slotsUsed := s₂.slotsUsed } : State).setVm s₂.vm).setTop g).pushFrame (.throwing q) := by
      refine e3.trans ?_
      rw [hf₂, State.calling_eq h.top, State.setFrames_setFrames, State.pushFrame, State.frames_setTop _ hr', State.setTop_of_frames _ hr', State.setFrames_setFrames, hr]
      rfl
    have hsame : U.sameButNew ({ U with heap := s₂.heap, slotsUsed := s₂.slotsUsed } : State) L mc ms := by
      refine ⟨?_, q2, q3, q4, q5, q6⟩
      obtain ⟨t, ht, -⟩ := State.frames_cons hr
      show ({ U with heap := s₂.heap, slotsUsed := s₂.slotsUsed } : State) = { U.setFrames U.frames with heap := s₂.heap, slotsUsed := s₂.slotsUsed }
      rw [State.setFrames_self ht]
    subst hg
    refine Or.inr ⟨q, ⟨(({ U with heap := s₂.heap, slotsUsed := s₂.slotsUsed } : State).setVm s₂.vm), Ls ++ L, c0 + mc, s0 + ms⟩,
      ⟨X.admits, X.cas, X.clock, X.frames, X.room, X.hears, X.method, X.code, (X.here.setHeapUsed s₂.heap s₂.slotsUsed).setVm hW'.alike, X.tail, State.WarmedH.trans X.warmed hW', X.limits, X.bytes, X.same.trans (hsame.setVm s.vm)⟩,
      ⟨g, mk, s₂, L, E, ce, rfl, rfl, hx, hce, hcv, hcl, rfl, hL, rfl, rfl⟩, ?_⟩
    show Steps p.tables e below _ (((({ U with heap := s₂.heap, slotsUsed := s₂.slotsUsed } : State).setVm s₂.vm).setTop g).pushFrame (.throwing q))
    rw [← hs₂]
    exact hsteps
end
variable {p : Program} {l : Launch} {e : Env} {R : Room} {s : State} {m : MethodId} {args : Array Value} {below : List Frame} {meth : Method} {c : Code} {T : State} {H : Heap} {locs : List Loc} {cells slots : Nat}
theorem vx_callVX (X : Stand p l e R s m args below meth c T locs cells slots) (hexec : p.tables.exec = Jvm.exec) {own C : String} {index : Nat} {y : MethodName} {bytes : ByteArray} {maxL : Nat} {ret : Option FieldType} {hh : List (Nat × Nat × Nat × Nat)}
    (hown : s.vm.findClass own = some m.cls) (hlink : (Cond.methodLink own index y).before args s = true) (hinst : (Cond.instanceMethod y).before args s = true) (hsel : (Cond.selects C y y).before args s = true)
    (hcode : (Cond.codeWith y bytes maxL ret hh).before args s = true) (hy : y.cls ≠ "java/lang/invoke/MethodHandle" ∧ y.cls ≠ "java/lang/invoke/VarHandle")
    {W9 : Nat} {Pre : Pt → Array Value → Prop} {Post : Pt → Array Value → Option Value → Pt → Prop} {PostX : Pt → Array Value → Addr → Pt → Prop} (hK : vx_Back l R p e below s args y 3 W9 Pre Post PostX)
    {b : Addr} {cellB : Cell} (hcell : T.heap[b]? = some cellB) (hobj : cellB.vm.isStatics = false) (hcls : s.vm.findClass C = some cellB.cls)
    {g : JFrame} (hg : g.method = m) (hsize : g.locals.size = c.maxLocals) {argsL rest : List Value} (hlen : ∀ sig, parseMethodDescriptor y.desc = some sig → argsL.length = sig.parameters.length)
    (hstack : g.stack = argsL.reverse ++ .ref b :: rest) (hW : 2 * g.monitorRoom + (rest.map fun v => v.category).sum ≤ W9) (hdg : decode c.code g.pc = .ok (.invokevirtual index, 3))
    (hpre : ∀ vm₁, s.WarmedH vm₁ → Pre ⟨T.setVm vm₁, locs, cells, slots⟩ (Value.ref b :: argsL).toArray) :
    (∃ (v : Option Value) (vm₁ : Vm) (B : Pt), s.WarmedH vm₁ ∧ Stand p l e R s m args below meth c B.U B.locs B.cells B.slots ∧ Post ⟨T.setVm vm₁, locs, cells, slots⟩ (Value.ref b :: argsL).toArray v B ∧
      ∀ target, Steps p.tables e below (B.U.setTop { g with pc := g.pc + 3, stack := v.toList ++ rest }) target → Steps p.tables e below (T.setTop g) target) ∨
    (∃ (q : Addr) (vm₁ : Vm) (B : Pt), s.WarmedH vm₁ ∧ Stand p l e R s m args below meth c B.U B.locs B.cells B.slots ∧ PostX ⟨T.setVm vm₁, locs, cells, slots⟩ (Value.ref b :: argsL).toArray q B ∧
      Steps p.tables e below (T.setTop g) ((B.U.setTop { g with stack := rest }).pushFrame (.throwing q))) := by
  obtain ⟨mk, methM, hnamed, hmethM, hstM, habM⟩ := Cond.instanceMethod_spec hinst
  obtain ⟨m8, methM', cM, hn8, hmethM', -, -, -, -, -, -, hsigM⟩ := Cond.codeWith_spec hcode
  cases Option.some.inj (hn8.symm.trans hnamed)
  cases hmethM.symm.trans hmethM'
  obtain ⟨c2, r2, m2, q1, q2, q3, q4, kP, hkP, hkPi⟩ := Cond.selects_spec hsel
  cases hcls.symm.trans q1
  cases (State.methodFound?_of_named hnamed hy).symm.trans q2
  cases hnamed.symm.trans q3
  have hselP : selectMethod e.platform s.vm cellB.cls mk = .method mk := by rw [Launch.admits_selectMethod X.admits]; exact q4
  obtain ⟨vm₁, X₁, hstep₁⟩ := X.invokevirtual hexec hown hlink hnamed hmethM hstM hkP hkPi hy (a := b) (cell := cellB) hcell
    (fun z h => by rw [h] at hobj; cases hobj) hselP hmethM habM hkP hkPi (g := g) hg (argsL := argsL) (rest := rest) (hlen _ hsigM) hstack hdg
  rcases hK m meth c ⟨T.setVm vm₁, locs, cells, slots⟩ { g with stack := rest } (.invokevirtual index) mk (Value.ref b :: argsL).toArray X₁ hg hsize hdg hW (X₁.named hnamed) (hpre vm₁ X₁.warmed) with ⟨v, B, X', hpost, hsteps⟩ | ⟨q, B, X', hpost, hsteps⟩
  · exact Or.inl ⟨v, vm₁, B, X₁.warmed, X', hpost, fun target h => hstep₁ _ fun acts => by rw [doInvoke_state]; exact hsteps.trans h⟩
  · exact Or.inr ⟨q, vm₁, B, X₁.warmed, X', hpost, hstep₁ _ fun acts => by rw [doInvoke_state]; exact hsteps⟩
theorem vx_callSX (X : Stand p l e R s m args below meth c T locs cells slots) (hexec : p.tables.exec = Jvm.exec) {own : String} {index : Nat} {y : MethodName} {bytes : ByteArray} {maxL : Nat} {ret : Option FieldType} {hh : List (Nat × Nat × Nat × Nat)}
    (hown : s.vm.findClass own = some m.cls) (hlink : (Cond.methodLink own index y).before args s = true) (hstat : (Cond.static y).before args s = true) (hinit : (Cond.initialized y.cls).before args s = true)
    (hcode : (Cond.codeWith y bytes maxL ret hh).before args s = true) (hy : y.cls ≠ "java/lang/invoke/MethodHandle" ∧ y.cls ≠ "java/lang/invoke/VarHandle")
    {W9 : Nat} {Pre : Pt → Array Value → Prop} {Post : Pt → Array Value → Option Value → Pt → Prop} {PostX : Pt → Array Value → Addr → Pt → Prop} (hK : vx_Back l R p e below s args y 3 W9 Pre Post PostX)
    {g : JFrame} (hg : g.method = m) (hsize : g.locals.size = c.maxLocals) {argsL rest : List Value} (hlen : ∀ sig, parseMethodDescriptor y.desc = some sig → argsL.length = sig.parameters.length)
    (hstack : g.stack = argsL.reverse ++ rest) (hW : 2 * g.monitorRoom + (rest.map fun v => v.category).sum ≤ W9) (hdg : decode c.code g.pc = .ok (.invokestatic index, 3))
    (hpre : ∀ vm₁, s.WarmedH vm₁ → Pre ⟨T.setVm vm₁, locs, cells, slots⟩ argsL.toArray) :
    (∃ (v : Option Value) (vm₁ : Vm) (B : Pt), s.WarmedH vm₁ ∧ Stand p l e R s m args below meth c B.U B.locs B.cells B.slots ∧ Post ⟨T.setVm vm₁, locs, cells, slots⟩ argsL.toArray v B ∧
      ∀ target, Steps p.tables e below (B.U.setTop { g with pc := g.pc + 3, stack := v.toList ++ rest }) target → Steps p.tables e below (T.setTop g) target) ∨
    (∃ (q : Addr) (vm₁ : Vm) (B : Pt), s.WarmedH vm₁ ∧ Stand p l e R s m args below meth c B.U B.locs B.cells B.slots ∧ PostX ⟨T.setVm vm₁, locs, cells, slots⟩ argsL.toArray q B ∧
      Steps p.tables e below (T.setTop g) ((B.U.setTop { g with stack := rest }).pushFrame (.throwing q))) := by
  obtain ⟨mk, methM, cM, hnamed, hmethM, -, -, -, -, -, -, hsigM⟩ := Cond.codeWith_spec hcode
  have hstatic : methM.isStatic = true := Cond.static_spec hnamed hmethM hstat
  obtain ⟨kP, hkP, -⟩ := className_of_methodNamed hnamed
  have hinitP : kP.init = .initialized := Cond.initialized_spec (findClass_of_methodNamed hnamed) hkP hinit
  obtain ⟨vm₁, X₁, hstep₁⟩ := X.invokestatic hexec hown hlink hnamed hmethM hstatic hkP hinitP hy (g := g) hg (argsL := argsL) (rest := rest) (hlen _ hsigM) hstack hdg
  rcases hK m meth c ⟨T.setVm vm₁, locs, cells, slots⟩ { g with stack := rest } (.invokestatic index) mk argsL.toArray X₁ hg hsize hdg hW (X₁.named hnamed) (hpre vm₁ X₁.warmed) with ⟨v, B, X', hpost, hsteps⟩ | ⟨q, B, X', hpost, hsteps⟩
  · exact Or.inl ⟨v, vm₁, B, X₁.warmed, X', hpost, fun target h => hstep₁ _ fun acts => by rw [doInvoke_state]; exact hsteps.trans h⟩
  · exact Or.inr ⟨q, vm₁, B, X₁.warmed, X', hpost, hstep₁ _ fun acts => by rw [doInvoke_state]; exact hsteps⟩
theorem vx_callVW (X : Stand p l e R s m args below meth c T locs cells slots) (hexec : p.tables.exec = Jvm.exec) {own C : String} {index : Nat} {y : MethodName} {bytes : ByteArray} {maxL : Nat} {ret : Option FieldType} {hh : List (Nat × Nat × Nat × Nat)}
    (hown : s.vm.findClass own = some m.cls) (hlink : (Cond.methodLink own index y).before args s = true) (hinst : (Cond.instanceMethod y).before args s = true) (hsel : (Cond.selects C y y).before args s = true)
    (hcode : (Cond.codeWith y bytes maxL ret hh).before args s = true) (hy : y.cls ≠ "java/lang/invoke/MethodHandle" ∧ y.cls ≠ "java/lang/invoke/VarHandle")
    {W9 : Nat} {Pre : Pt → Array Value → Prop} {Post : Pt → Array Value → Option Value → Pt → Prop} (hK : Back l R p e below s args y 3 W9 Pre Post)
    {b : Addr} {cellB : Cell} (hcell : T.heap[b]? = some cellB) (hobj : cellB.vm.isStatics = false) (hcls : s.vm.findClass C = some cellB.cls)
    {g : JFrame} (hg : g.method = m) (hsize : g.locals.size = c.maxLocals) {argsL rest : List Value} (hlen : ∀ sig, parseMethodDescriptor y.desc = some sig → argsL.length = sig.parameters.length)
    (hstack : g.stack = argsL.reverse ++ .ref b :: rest) (hW : 2 * g.monitorRoom + (rest.map fun v => v.category).sum ≤ W9) (hdg : decode c.code g.pc = .ok (.invokevirtual index, 3))
    (hpre : ∀ vm₁, s.WarmedH vm₁ → Pre ⟨T.setVm vm₁, locs, cells, slots⟩ (Value.ref b :: argsL).toArray) :
    ∃ (v : Option Value) (vm₁ : Vm) (B : Pt), s.WarmedH vm₁ ∧ Stand p l e R s m args below meth c B.U B.locs B.cells B.slots ∧ Post ⟨T.setVm vm₁, locs, cells, slots⟩ (Value.ref b :: argsL).toArray v B ∧
      ∀ target, Steps p.tables e below (B.U.setTop { g with pc := g.pc + 3, stack := v.toList ++ rest }) target → Steps p.tables e below (T.setTop g) target := by
  obtain ⟨mk, methM, hnamed, hmethM, hstM, habM⟩ := Cond.instanceMethod_spec hinst
  obtain ⟨m8, methM', cM, hn8, hmethM', -, -, -, -, -, -, hsigM⟩ := Cond.codeWith_spec hcode
  cases Option.some.inj (hn8.symm.trans hnamed)
  cases hmethM.symm.trans hmethM'
  obtain ⟨c2, r2, m2, q1, q2, q3, q4, kP, hkP, hkPi⟩ := Cond.selects_spec hsel
  cases hcls.symm.trans q1
  cases (State.methodFound?_of_named hnamed hy).symm.trans q2
  cases hnamed.symm.trans q3
  have hselP : selectMethod e.platform s.vm cellB.cls mk = .method mk := by rw [Launch.admits_selectMethod X.admits]; exact q4
  obtain ⟨vm₁, X₁, hstep₁⟩ := X.invokevirtual hexec hown hlink hnamed hmethM hstM hkP hkPi hy (a := b) (cell := cellB) hcell
    (fun z h => by rw [h] at hobj; cases hobj) hselP hmethM habM hkP hkPi (g := g) hg (argsL := argsL) (rest := rest) (hlen _ hsigM) hstack hdg
  obtain ⟨v, B, X', hpost, hsteps⟩ := hK m meth c ⟨T.setVm vm₁, locs, cells, slots⟩ { g with stack := rest } (.invokevirtual index) mk (Value.ref b :: argsL).toArray X₁ hg hsize hdg hW (X₁.named hnamed) (hpre vm₁ X₁.warmed)
  exact ⟨v, vm₁, B, X₁.warmed, X', hpost, fun target h => hstep₁ _ fun acts => by rw [doInvoke_state]; exact hsteps.trans h⟩
abbrev vx_CVW (R : Room) (s : State) (args : Array Value) (own C : String) (index : Nat) (y : MethodName) (bytes : ByteArray) (maxL : Nat) (ret : Option FieldType) (hh : List (Nat × Nat × Nat × Nat)) (ws : List Cond) (rm : Room) (mc ms n : Nat) : Prop :=
  (rm.cells = mc ∧ rm.slots = ms ∧ rm.frames + 1 ≤ R.frames ∧ 8 + (maxL + 11) + rm.locals ≤ R.locals ∧ (∀ w ∈ ws, ∀ (a' : Array Value) (U : State), s.WarmedH U.vm → w.before a' U = true) ∧ Cond.codeWith y bytes maxL ret hh ∈ ws) ∧
  (Cond.codeWith y bytes maxL ret hh).before args s = true ∧ (Cond.initialized y.cls).before args s = true ∧ (y.cls ≠ "java/lang/invoke/MethodHandle" ∧ y.cls ≠ "java/lang/invoke/VarHandle") ∧
  (∀ sig, parseMethodDescriptor y.desc = some sig → n = sig.parameters.length) ∧ (Cond.methodLink own index y).before args s = true ∧ (Cond.instanceMethod y).before args s = true ∧ (Cond.selects C y y).before args s = true
theorem vx_cwVW {own C : String} {index maxL mc ms : Nat} {y : MethodName} {bytes : ByteArray} {ret : Option FieldType} {hh : List (Nat × Nat × Nat × Nat)} {Ts ws ws' : List Cond} {rm : Room} (n : Nat) (ht : ∀ w ∈ Ts, w.before args s = true) (hT : GoodIn Ts (wsV own index C y ws)) (hw : ws = Cond.codeWith y bytes maxL ret hh :: ws') (hrc : rm.cells = mc) (hrs : rm.slots = ms)
    (hd : y.cls = C ∧ y.cls ≠ "java/lang/invoke/MethodHandle" ∧ y.cls ≠ "java/lang/invoke/VarHandle" ∧ (parseMethodDescriptor y.desc).map (fun d => d.parameters.length) = some n) (hR : rm.frames + 1 ≤ R.frames ∧ 8 + (maxL + 11) + rm.locals ≤ R.locals) :
    vx_CVW R s args own C index y bytes maxL ret hh ws rm mc ms n := by
  obtain ⟨hC, hd⟩ := hd
  subst hC
  have ok : ∀ w ∈ wsV own index y.cls y ws, w.before args s = true := fun w h => ht w (hT w h).1
  have hG : GoodIn Ts ws := fun w h => hT w (by unfold wsV; exact List.mem_append_right _ h)
  have hc : Cond.codeWith y bytes maxL ret hh ∈ ws := by rw [hw]; exact List.mem_cons_self
  refine ⟨⟨hrc, hrs, hR.1, hR.2, pay_in ht hG, hc⟩, ht _ (hG _ hc).1, ok _ (by simp [wsV]), ⟨hd.1, hd.2.1⟩, fun sig h => ?_, ok _ (by simp [wsV]), ok _ (by simp [wsV]), ok _ (by simp [wsV])⟩
  have h2 := hd.2.2
  rw [h] at h2
  exact (Option.some.inj h2).symm
theorem vx_runVW {y : MethodName} {bytes cc : ByteArray} {maxL nL mc ms n index : Nat} {ret : Option FieldType} {hh : List (Nat × Nat × Nat × Nat)} {ws : List Cond} {rm : Room} {Pc : Array Value → State → Prop} {Qc : Array Value → State → Outcome → State → Prop} {free : Addr → Prop} {Ts : List Cond} {own C : String} {b : Addr} {As rest : List Value} {g : JFrame}
    (S : CallFix p m c cc nL s args Ts own) (hM : Met l y ws rm Pc Qc mc ms free) (cw : vx_CVW R s args own C index y bytes maxL ret hh ws rm mc ms n) (hp : PreV s H C b Pc As)
    (hg : g.method = m) (hn : As.length = n) (hsize : g.locals.size = nL) (hstack : g.stack = As.reverse ++ .ref b :: rest) (hW : 2 * g.monitorRoom + (rest.map fun v => v.category).sum ≤ 8) (hdg : decode cc g.pc = .ok (.invokevirtual index, 3)) (hf : cells + mc ≤ R.cells ∧ slots + ms ≤ R.slots) :
    va_Run p l e R s m args below meth c H locs cells slots mc ms g rest (Qc (Value.ref b :: As).toArray) free := by
  obtain ⟨⟨hrc, hrs, hfr, hlo, hws, hcw⟩, hcode, hini, hy, hlen, hl, hin, hse⟩ := cw
  have hK : Back l R p e below s args y 3 8 (PreOf R mc ms Pc) (PostOf Qc mc ms free) := va_backW (hh := hh) (bytes := bytes) (maxL := maxL) (ret := ret) hM hp.1 hrc hrs hfr hlo hws hcw (fun a' U hW => word_at hW (Or.inl (by first | rfl | simp [Cond.onTables, Cond.keeps, Cond.steady])) hini)
  obtain ⟨hx, hb, hml, ho, -⟩ := S
  obtain ⟨-, ⟨cellB, hcB, hoB, hclB⟩, hPc⟩ := hp
  intro T hT X
  obtain ⟨v, vm₁, ⟨U', l2, c2, s2⟩, hW₁, X', ⟨g', mk, t, L, e1, e2, hq, h1, hL, h2, h3⟩, st⟩ := vx_callVW X hx (C := C) (hh := hh) (bytes := bytes) (maxL := maxL) (ret := ret) ho hl hin hse hcode hy hK (by rw [hT]; exact hcB) hoB hclB hg (hsize.trans hml.symm) (argsL := As) (rest := rest) (fun sig h => hn.trans (hlen sig h)) hstack hW (by rw [hb]; exact hdg)
    (fun vm₁ hW₁ => ⟨hf.1, hf.2, hPc (T.setVm vm₁) hT hW₁⟩)
  dsimp only [Pt.U, Pt.locs, Pt.cells, Pt.slots] at X' e1 e2 h1 h2 h3 st
  subst h1; subst h2; subst h3
  exact ⟨v, (T.setVm vm₁).calling g' mk (Value.ref b :: As).toArray, t, U', L, hT, X', hL, e1, e2, hq, st⟩
section
variable {y : MethodName} {bytes cc : ByteArray} {maxL nL mc ms n index : Nat} {ret : Option FieldType} {ws : List Cond} {rm : Room} {Pc : Array Value → State → Prop} {Qc : Array Value → State → Outcome → State → Prop} {XC : String → State → State → Prop} {free : Addr → Prop} {Ts : List Cond} {own C : String} {b : Addr} {As rest : List Value} {g : JFrame}
theorem vx_runVX {hh : List (Nat × Nat × Nat × Nat)} (S : CallFix p m c cc nL s args Ts own) (hM : vx_Met l y ws rm Pc Qc XC mc ms free) (cw : vx_CVW R s args own C index y bytes maxL ret hh ws rm mc ms n) (hp : PreV s H C b Pc As)
    (hg : g.method = m) (hn : As.length = n) (hsize : g.locals.size = nL) (hstack : g.stack = As.reverse ++ .ref b :: rest) (hW : 2 * g.monitorRoom + (rest.map fun v => v.category).sum ≤ 8) (hdg : decode cc g.pc = .ok (.invokevirtual index, 3)) (hf : cells + mc ≤ R.cells ∧ slots + ms ≤ R.slots) :
    vx_Run p l e R s m args below meth c H locs cells slots mc ms g rest (Qc (Value.ref b :: As).toArray) XC free := by
  obtain ⟨⟨hrc, hrs, hfr, hlo, hws, hcw⟩, hcode, hini, hy, hlen, hl, hin, hse⟩ := cw
  have hK : vx_Back l R p e below s args y 3 8 (PreOf R mc ms Pc) (PostOf Qc mc ms free) (vx_Post XC mc ms free) := vx_backW (hh := hh) (bytes := bytes) (maxL := maxL) (ret := ret) hM hp.1 hrc hrs hfr hlo hws hcw (fun a' U hW => word_at hW (Or.inl (by first | rfl | simp [Cond.onTables, Cond.keeps, Cond.steady])) hini)
  obtain ⟨hx, hb, hml, ho, -⟩ := S
  obtain ⟨-, ⟨cellB, hcB, hoB, hclB⟩, hPc⟩ := hp
  intro T hT X
  rcases vx_callVX X hx (C := C) (hh := hh) (bytes := bytes) (maxL := maxL) (ret := ret) ho hl hin hse hcode hy hK (by rw [hT]; exact hcB) hoB hclB hg (hsize.trans hml.symm) (argsL := As) (rest := rest) (fun sig h => hn.trans (hlen sig h)) hstack hW (by rw [hb]; exact hdg)
    (fun vm₁ hW₁ => ⟨hf.1, hf.2, hPc (T.setVm vm₁) hT hW₁⟩) with ⟨v, vm₁, ⟨U', l2, c2, s2⟩, hW₁, X', ⟨g', mk, t, L, e1, e2, hq, h1, hL, h2, h3⟩, st⟩ | ⟨q, vm₁, ⟨U', l2, c2, s2⟩, hW₁, X', ⟨g', mk, t, L, E, ce, e1, e2, hq, hce, hcv, hcl, h1, hL, h2, h3⟩, st⟩
  · dsimp only [Pt.U, Pt.locs, Pt.cells, Pt.slots] at X' e1 e2 h1 h2 h3 st
    subst h1; subst h2; subst h3
    exact Or.inl ⟨v, (T.setVm vm₁).calling g' mk (Value.ref b :: As).toArray, t, U', L, hT, X', hL, e1, e2, hq, st⟩
  · dsimp only [Pt.U, Pt.locs, Pt.cells, Pt.slots] at X' e1 e2 h1 h2 h3 st hcl
    subst h1; subst h2; subst h3
    exact Or.inr ⟨q, (T.setVm vm₁).calling g' mk (Value.ref b :: As).toArray, t, U', L, E, ce, hT, X', hL, e1, e2, hq, hce, hcv, vx_cls hW₁ hcl, st⟩
theorem vx_runSX {hh : List (Nat × Nat × Nat × Nat)} (S : CallFix p m c cc nL s args Ts own) (hM : vx_Met l y ws rm Pc Qc XC mc ms free) (cw : vx_CSW R s args own index y bytes maxL ret hh ws rm mc ms n) (hp : PreS s H Pc As)
    (hg : g.method = m) (hn : As.length = n) (hsize : g.locals.size = nL) (hstack : g.stack = As.reverse ++ rest) (hW : 2 * g.monitorRoom + (rest.map fun v => v.category).sum ≤ 8) (hdg : decode cc g.pc = .ok (.invokestatic index, 3)) (hf : cells + mc ≤ R.cells ∧ slots + ms ≤ R.slots) :
    vx_Run p l e R s m args below meth c H locs cells slots mc ms g rest (Qc As.toArray) XC free := by
  obtain ⟨⟨hrc, hrs, hfr, hlo, hws, hcw⟩, hcode, hini, hy, hlen, hl, hstt⟩ := cw
  have hK : vx_Back l R p e below s args y 3 8 (PreOf R mc ms Pc) (PostOf Qc mc ms free) (vx_Post XC mc ms free) := vx_backW (hh := hh) (bytes := bytes) (maxL := maxL) (ret := ret) hM hp.1 hrc hrs hfr hlo hws hcw (fun a' U hW => word_at hW (Or.inl (by first | rfl | simp [Cond.onTables, Cond.keeps, Cond.steady])) hini)
  obtain ⟨hx, hb, hml, ho, -⟩ := S
  intro T hT X
  rcases vx_callSX X hx (hh := hh) (bytes := bytes) (maxL := maxL) (ret := ret) ho hl hstt hini hcode hy hK hg (hsize.trans hml.symm) (argsL := As) (rest := rest) (fun sig h => hn.trans (hlen sig h)) hstack hW (by rw [hb]; exact hdg)
    (fun vm₁ hW₁ => ⟨hf.1, hf.2, hp.2 (T.setVm vm₁) hT hW₁⟩) with ⟨v, vm₁, ⟨U', l2, c2, s2⟩, hW₁, X', ⟨g', mk, t, L, e1, e2, hq, h1, hL, h2, h3⟩, st⟩ | ⟨q, vm₁, ⟨U', l2, c2, s2⟩, hW₁, X', ⟨g', mk, t, L, E, ce, e1, e2, hq, hce, hcv, hcl, h1, hL, h2, h3⟩, st⟩
  · dsimp only [Pt.U, Pt.locs, Pt.cells, Pt.slots] at X' e1 e2 h1 h2 h3 st
    subst h1; subst h2; subst h3
    exact Or.inl ⟨v, (T.setVm vm₁).calling g' mk As.toArray, t, U', L, hT, X', hL, e1, e2, hq, st⟩
  · dsimp only [Pt.U, Pt.locs, Pt.cells, Pt.slots] at X' e1 e2 h1 h2 h3 st hcl
    subst h1; subst h2; subst h3
    exact Or.inr ⟨q, (T.setVm vm₁).calling g' mk As.toArray, t, U', L, E, ce, hT, X', hL, e1, e2, hq, hce, hcv, vx_cls hW₁ hcl, st⟩
end
end VXH
theorem vx_ofWH {l : Launch} {y : MethodName} {ws ws' : List Cond} {rm : Room} {Pc : Array Value → State → Prop} {Qc : Array Value → State → Outcome → State → Prop} {XC : String → State → State → Prop} {mc ms : Nat} {free : Addr → Prop} {cc : ByteArray} {maxL : Nat} {ret : Option FieldType} {hh : List (Nat × Nat × Nat × Nat)}
    (hy : plainName y.cls = true) (hw : ws = Cond.codeWith y cc maxL ret hh :: ws')
    (body : ∀ p e s m args below meth c s₁, BodyLoose p l y (headSpec ws rm) cc maxL ret e s m args below meth c s₁ → c.maxLocals = maxL → Pc args s →
      W p l e (headSpec ws rm).room s m args below meth c s.heap [] 0 0 (vx_MQ below Qc XC args s mc ms free) (entryFrame m args maxL)) : vx_Met l y ws rm Pc Qc XC mc ms free := by
  refine MetFree.of_bodyS (code := cc) (maxLocals := maxL) (ret := ret) hy ?_ ?_
  · intro args s m h hn
    obtain ⟨m9, meth, c, hn9, h1, h2, h3, h4, -, h5, h6, -⟩ := Cond.codeWith_spec (atoms_spec (ws := ws) h _ (by rw [hw]; exact List.mem_cons_self))
    cases hn.symm.trans hn9
    exact ⟨meth, c, h1, h2, h3, h4, h5, h6⟩
  · intro p e s m args below meth c s₁ B hml hP _
    have hh0 : s₁.heap = s.heap := by rw [B.state]; rfl
    obtain ⟨t, a1, o, b1, b2, b3⟩ := body p e s m args below meth c s₁ B hml hP s₁ hh0 (Stand.of_body B)
    exact ⟨t, o, a1, b1, b2, b3⟩
/-! ===== END ===== -/

/-! ===== names, out of the printed ones ===== -/
def RX0 : String := "HerdCords$Cord"
def TX0 : u_T := fun k => match k with
  | 0 => ("HerdCords$Cord", "knots", "[I", true)
  | 1 => ("HerdCords$Cord", "loops", "[I", true)
  | 2 => ("HerdCords$Cord", "parts", "[I", true)
  | 3 => ("HerdCords$Cord", "partCount", "I", false)
  | 4 => ("HerdCords$Cord", "hue", "I", false)
  | _ => ("HerdCords$Cord", "slips", "I", false)
def tyX0 : Nat → FieldType := fun k => match k with
  | 0 => .array .int
  | 1 => .array .int
  | 2 => .array .int
  | 3 => .int
  | 4 => .int
  | _ => .int
abbrev wsX00 : List Cond := u_ws RX0 TX0 6
theorem nmX0 : ∀ a, a < 6 → ∀ b, b < 6 → a ≠ b → (TX0 a).2.1 ≠ (TX0 b).2.1 := by decide +kernel
theorem tyX0_ok : ∀ k, k < 6 → parseFieldDescriptor (TX0 k).2.2.1 = some (tyX0 k) := by decide +kernel
abbrev cX0_init : ByteArray := prog_2_method_1_code
def yX0_init : MethodName := ⟨RX0, "<init>", "()V"⟩
abbrev cX0_copyFrom : ByteArray := prog_2_method_2_code
def yX0_copyFrom : MethodName := ⟨RX0, "copyFrom", "(LHerdCords$Cord;)V"⟩
abbrev cX0_becomeNew : ByteArray := prog_2_method_3_code
def yX0_becomeNew : MethodName := ⟨RX0, "becomeNew", "()V"⟩
abbrev cX0_open : ByteArray := prog_2_method_4_code
def yX0_open : MethodName := ⟨RX0, "open", "(I)I"⟩
abbrev cX0_tiesAt : ByteArray := prog_2_method_5_code
def yX0_tiesAt : MethodName := ⟨RX0, "tiesAt", "(I)I"⟩
abbrev cX0_told : ByteArray := prog_2_method_6_code
def yX0_told : MethodName := ⟨RX0, "told", "()I"⟩
abbrev cX0_partsTogether : ByteArray := prog_2_method_7_code
def yX0_partsTogether : MethodName := ⟨RX0, "partsTogether", "()I"⟩
abbrev cX0_lack : ByteArray := prog_2_method_8_code
def yX0_lack : MethodName := ⟨RX0, "lack", "()I"⟩
abbrev cX0_allKnots : ByteArray := prog_2_method_9_code
def yX0_allKnots : MethodName := ⟨RX0, "allKnots", "()I"⟩
abbrev cX0_allLoops : ByteArray := prog_2_method_10_code
def yX0_allLoops : MethodName := ⟨RX0, "allLoops", "()I"⟩
abbrev cX0_ties : ByteArray := prog_2_method_11_code
def yX0_ties : MethodName := ⟨RX0, "ties", "()I"⟩
abbrev cX0_refusal : ByteArray := prog_2_method_12_code
def yX0_refusal : MethodName := ⟨RX0, "refusal", "(II)I"⟩
abbrev cX0_refusalOfPart : ByteArray := prog_2_method_13_code
def yX0_refusalOfPart : MethodName := ⟨RX0, "refusalOfPart", "(II)I"⟩
abbrev cX0_tieKnots : ByteArray := prog_2_method_14_code
def yX0_tieKnots : MethodName := ⟨RX0, "tieKnots", "(I)V"⟩
abbrev cX0_tieAsPart : ByteArray := prog_2_method_15_code
def yX0_tieAsPart : MethodName := ⟨RX0, "tieAsPart", "(I)V"⟩
abbrev cX0_loopsFor : ByteArray := prog_2_method_16_code
def yX0_loopsFor : MethodName := ⟨RX0, "loopsFor", "(II)I"⟩
abbrev cX0_sumOf : ByteArray := prog_2_method_17_code
def yX0_sumOf : MethodName := ⟨RX0, "sumOf", "([II)I"⟩
def RX1 : String := "HerdCords$Herd"
def TX1 : u_T := fun k => match k with
  | 0 => ("HerdCords$Herd", "cords", "[LHerdCords$Cord;", true)
  | 1 => ("HerdCords$Herd", "room", "I", false)
  | 2 => ("HerdCords$Herd", "knotsTied", "I", false)
  | 3 => ("HerdCords$Herd", "loopsTied", "I", false)
  | 4 => ("HerdCords$Herd", "slips", "I", false)
  | 5 => ("HerdCords$Herd", "gone", "I", false)
  | _ => ("HerdCords$Herd", "refused", "I", false)
def tyX1 : Nat → FieldType := fun k => match k with
  | 0 => .array (.object "HerdCords$Cord")
  | 1 => .int
  | 2 => .int
  | 3 => .int
  | 4 => .int
  | 5 => .int
  | _ => .int
abbrev wsX10 : List Cond := u_ws RX1 TX1 7
theorem nmX1 : ∀ a, a < 7 → ∀ b, b < 7 → a ≠ b → (TX1 a).2.1 ≠ (TX1 b).2.1 := by decide +kernel
theorem tyX1_ok : ∀ k, k < 7 → parseFieldDescriptor (TX1 k).2.2.1 = some (tyX1 k) := by decide +kernel
abbrev cX1_init : ByteArray := prog_3_method_1_code
def yX1_init : MethodName := ⟨RX1, "<init>", "()V"⟩
abbrev cX1_copyFrom : ByteArray := prog_3_method_2_code
def yX1_copyFrom : MethodName := ⟨RX1, "copyFrom", "(LHerdCords$Herd;)V"⟩
abbrev cX1_tiePart : ByteArray := prog_3_method_3_code
def yX1_tiePart : MethodName := ⟨RX1, "tiePart", "(LHerdCords$Cord;I)I"⟩
abbrev cX1_tieCord : ByteArray := prog_3_method_4_code
def yX1_tieCord : MethodName := ⟨RX1, "tieCord", "(LHerdCords$Cord;LHerdCords$Cord;)I"⟩
abbrev cX1_tieLack : ByteArray := prog_3_method_5_code
def yX1_tieLack : MethodName := ⟨RX1, "tieLack", "(LHerdCords$Cord;)I"⟩
abbrev cX1_countTied : ByteArray := prog_3_method_6_code
def yX1_countTied : MethodName := ⟨RX1, "countTied", "(LHerdCords$Cord;II)I"⟩
abbrev cX1_loosen : ByteArray := prog_3_method_7_code
def yX1_loosen : MethodName := ⟨RX1, "loosen", "(LHerdCords$Cord;I)I"⟩
abbrev cX1_replace : ByteArray := prog_3_method_8_code
def yX1_replace : MethodName := ⟨RX1, "replace", "(LHerdCords$Cord;)I"⟩
abbrev cX1_tellEach : ByteArray := prog_3_method_9_code
def yX1_tellEach : MethodName := ⟨RX1, "tellEach", "([I)V"⟩
abbrev cX1_told : ByteArray := prog_3_method_10_code
def yX1_told : MethodName := ⟨RX1, "told", "()I"⟩
abbrev cX1_toldInHue : ByteArray := prog_3_method_11_code
def yX1_toldInHue : MethodName := ⟨RX1, "toldInHue", "(I)I"⟩
abbrev cX1_knots : ByteArray := prog_3_method_12_code
def yX1_knots : MethodName := ⟨RX1, "knots", "()I"⟩
abbrev cX1_loops : ByteArray := prog_3_method_13_code
def yX1_loops : MethodName := ⟨RX1, "loops", "()I"⟩
abbrev cX1_ties : ByteArray := prog_3_method_14_code
def yX1_ties : MethodName := ⟨RX1, "ties", "()I"⟩
abbrev cX1_lacking : ByteArray := prog_3_method_15_code
def yX1_lacking : MethodName := ⟨RX1, "lacking", "()I"⟩
abbrev cX1_fullestCord : ByteArray := prog_3_method_16_code
def yX1_fullestCord : MethodName := ⟨RX1, "fullestCord", "()I"⟩
def RX2 : String := "HerdCords$History"
def TX2 : u_T := fun k => match k with
  | 0 => ("HerdCords$History", "saved", "[LHerdCords$Herd;", true)
  | 1 => ("HerdCords$History", "next", "I", false)
  | _ => ("HerdCords$History", "size", "I", false)
def tyX2 : Nat → FieldType := fun k => match k with
  | 0 => .array (.object "HerdCords$Herd")
  | 1 => .int
  | _ => .int
abbrev wsX20 : List Cond := u_ws RX2 TX2 3
theorem nmX2 : ∀ a, a < 3 → ∀ b, b < 3 → a ≠ b → (TX2 a).2.1 ≠ (TX2 b).2.1 := by decide +kernel
theorem tyX2_ok : ∀ k, k < 3 → parseFieldDescriptor (TX2 k).2.2.1 = some (tyX2 k) := by decide +kernel
abbrev cX2_init : ByteArray := prog_4_method_1_code
def yX2_init : MethodName := ⟨RX2, "<init>", "()V"⟩
abbrev cX2_save : ByteArray := prog_4_method_2_code
def yX2_save : MethodName := ⟨RX2, "save", "(LHerdCords$Herd;)V"⟩
abbrev cX2_restore : ByteArray := prog_4_method_3_code
def yX2_restore : MethodName := ⟨RX2, "restore", "(LHerdCords$Herd;)V"⟩
def RX3 : String := "HerdCords$OrderReader"
def TX3 : u_T := fun k => match k with
  | 0 => ("HerdCords$OrderReader", "step", "I", false)
  | 1 => ("HerdCords$OrderReader", "digits", "I", false)
  | 2 => ("HerdCords$OrderReader", "cord", "I", false)
  | 3 => ("HerdCords$OrderReader", "kind", "C", false)
  | _ => ("HerdCords$OrderReader", "value", "I", false)
def tyX3 : Nat → FieldType := fun k => match k with
  | 0 => .int
  | 1 => .int
  | 2 => .int
  | 3 => .char
  | _ => .int
abbrev wsX30 : List Cond := u_ws RX3 TX3 5
theorem nmX3 : ∀ a, a < 5 → ∀ b, b < 5 → a ≠ b → (TX3 a).2.1 ≠ (TX3 b).2.1 := by decide +kernel
theorem tyX3_ok : ∀ k, k < 5 → parseFieldDescriptor (TX3 k).2.2.1 = some (tyX3 k) := by decide +kernel
abbrev cX3_init : ByteArray := prog_5_method_1_code
def yX3_init : MethodName := ⟨RX3, "<init>", "()V"⟩
def RX4 : String := "HerdCords"
def TX4 : u_T := fun k => match k with
  | 0 => ("HerdCords", "herd", "LHerdCords$Herd;", true)
  | 1 => ("HerdCords", "history", "LHerdCords$History;", true)
  | 2 => ("HerdCords", "snapshots", "[LHerdCords$Herd;", true)
  | 3 => ("HerdCords", "buffer", "[C", true)
  | 4 => ("HerdCords", "length", "I", false)
  | 5 => ("HerdCords", "reader", "LHerdCords$OrderReader;", true)
  | 6 => ("HerdCords", "trial", "LHerdCords$Cord;", true)
  | _ => ("HerdCords", "told", "[I", true)
def tyX4 : Nat → FieldType := fun k => match k with
  | 0 => .object "HerdCords$Herd"
  | 1 => .object "HerdCords$History"
  | 2 => .array (.object "HerdCords$Herd")
  | 3 => .array .char
  | 4 => .int
  | 5 => .object "HerdCords$OrderReader"
  | 6 => .object "HerdCords$Cord"
  | _ => .array .int
abbrev wsX40 : List Cond := u_ws RX4 TX4 8
theorem nmX4 : ∀ a, a < 8 → ∀ b, b < 8 → a ≠ b → (TX4 a).2.1 ≠ (TX4 b).2.1 := by decide +kernel
theorem tyX4_ok : ∀ k, k < 8 → parseFieldDescriptor (TX4 k).2.2.1 = some (tyX4 k) := by decide +kernel
abbrev cX4_init : ByteArray := prog_1_method_1_code
def yX4_init : MethodName := ⟨RX4, "<init>", "()V"⟩
abbrev cX4_tie : ByteArray := prog_1_method_2_code
def yX4_tie : MethodName := ⟨RX4, "tie", "(II)I"⟩
abbrev cX4_add : ByteArray := prog_1_method_3_code
def yX4_add : MethodName := ⟨RX4, "add", "(II)I"⟩
abbrev cX4_slip : ByteArray := prog_1_method_4_code
def yX4_slip : MethodName := ⟨RX4, "slip", "(II)I"⟩
abbrev cX4_mend : ByteArray := prog_1_method_5_code
def yX4_mend : MethodName := ⟨RX4, "mend", "(I)I"⟩
abbrev cX4_renew : ByteArray := prog_1_method_6_code
def yX4_renew : MethodName := ⟨RX4, "renew", "(I)I"⟩
abbrev cX4_dye : ByteArray := prog_1_method_7_code
def yX4_dye : MethodName := ⟨RX4, "dye", "(II)I"⟩
abbrev cX4_set : ByteArray := prog_1_method_8_code
def yX4_set : MethodName := ⟨RX4, "set", "(I)I"⟩
abbrev cX4_keep : ByteArray := prog_1_method_13_code
def yX4_keep : MethodName := ⟨RX4, "keep", "(I)I"⟩
abbrev cX4_goBack : ByteArray := prog_1_method_14_code
def yX4_goBack : MethodName := ⟨RX4, "goBack", "(I)I"⟩
abbrev cX4_undo : ByteArray := prog_1_method_15_code
def yX4_undo : MethodName := ⟨RX4, "undo", "()I"⟩
abbrev cX4_cordOf : ByteArray := prog_1_method_16_code
def yX4_cordOf : MethodName := ⟨RX4, "cordOf", "(II)I"⟩
abbrev cX4_placeOf : ByteArray := prog_1_method_17_code
def yX4_placeOf : MethodName := ⟨RX4, "placeOf", "(III)I"⟩
abbrev cX4_part : ByteArray := prog_1_method_18_code
def yX4_part : MethodName := ⟨RX4, "part", "(II)I"⟩
abbrev cX4_count : ByteArray := prog_1_method_19_code
def yX4_count : MethodName := ⟨RX4, "count", "(I)I"⟩
abbrev cX4_byHue : ByteArray := prog_1_method_20_code
def yX4_byHue : MethodName := ⟨RX4, "byHue", "(I)I"⟩
abbrev cX4_whyNot : ByteArray := prog_1_method_21_code
def yX4_whyNot : MethodName := ⟨RX4, "whyNot", "(II)I"⟩
abbrev cX4_howOften : ByteArray := prog_1_method_22_code
def yX4_howOften : MethodName := ⟨RX4, "howOften", "(II)I"⟩
abbrev cX4_cordsFor : ByteArray := prog_1_method_23_code
def yX4_cordsFor : MethodName := ⟨RX4, "cordsFor", "(II)I"⟩
abbrev cX4_fullest : ByteArray := prog_1_method_24_code
def yX4_fullest : MethodName := ⟨RX4, "fullest", "()I"⟩
abbrev cX4_closedShare : ByteArray := prog_1_method_25_code
def yX4_closedShare : MethodName := ⟨RX4, "closedShare", "()D"⟩
abbrev cX4_cordAt : ByteArray := prog_1_method_27_code
def yX4_cordAt : MethodName := ⟨RX4, "cordAt", "(I)LHerdCords$Cord;"⟩
abbrev cX4_checkPlace : ByteArray := prog_1_method_28_code
def yX4_checkPlace : MethodName := ⟨RX4, "checkPlace", "(I)V"⟩
abbrev cX4_checkNumber : ByteArray := prog_1_method_29_code
def yX4_checkNumber : MethodName := ⟨RX4, "checkNumber", "(I)V"⟩
abbrev cX4_checkHue : ByteArray := prog_1_method_30_code
def yX4_checkHue : MethodName := ⟨RX4, "checkHue", "(I)V"⟩
abbrev cX4_checkSlot : ByteArray := prog_1_method_31_code
def yX4_checkSlot : MethodName := ⟨RX4, "checkSlot", "(I)V"⟩
abbrev cX4_bestOfAllSets : ByteArray := prog_1_method_34_code
def yX4_bestOfAllSets : MethodName := ⟨RX4, "bestOfAllSets", "([II)I"⟩
abbrev cX4_toldBySet : ByteArray := prog_1_method_35_code
def yX4_toldBySet : MethodName := ⟨RX4, "toldBySet", "([II)I"⟩
abbrev cX4_bestByTrying : ByteArray := prog_1_method_36_code
def yX4_bestByTrying : MethodName := ⟨RX4, "bestByTrying", "([IIIII)I"⟩
abbrev cX4_better : ByteArray := prog_1_method_37_code
def yX4_better : MethodName := ⟨RX4, "better", "(II)I"⟩
def RX5 : String := "HerdCordsModel"
def TX5 : u_T := fun k => match k with
  | _ => ("", "", "", false)
def tyX5 : Nat → FieldType := fun k => match k with
  | _ => .int
abbrev wsX50 : List Cond := u_ws RX5 TX5 0
theorem nmX5 : ∀ a, a < 0 → ∀ b, b < 0 → a ≠ b → (TX5 a).2.1 ≠ (TX5 b).2.1 := by decide +kernel
theorem tyX5_ok : ∀ k, k < 0 → parseFieldDescriptor (TX5 k).2.2.1 = some (tyX5 k) := by decide +kernel
def RJ6 : String := "java/lang/Integer"
def TJ6 : u_T := fun k => match k with
  | _ => ("", "", "", false)
def tyJ6 : Nat → FieldType := fun k => match k with
  | _ => .int
abbrev wsJ60 : List Cond := u_ws RJ6 TJ6 0
theorem nmJ6 : ∀ a, a < 0 → ∀ b, b < 0 → a ≠ b → (TJ6 a).2.1 ≠ (TJ6 b).2.1 := by decide +kernel
theorem tyJ6_ok : ∀ k, k < 0 → parseFieldDescriptor (TJ6 k).2.2.1 = some (tyJ6 k) := by decide +kernel
abbrev cJ6_compare_7cf53 : ByteArray := prog_12_method_40_code
def yJ6_compare_7cf53 : MethodName := ⟨RJ6, "compare", "(II)I"⟩
abbrev cJ6_bitCount_0f7a4 : ByteArray := prog_12_method_49_code
def yJ6_bitCount_0f7a4 : MethodName := ⟨RJ6, "bitCount", "(I)I"⟩
def RJ9 : String := "java/lang/Math"
def TJ9 : u_T := fun k => match k with
  | _ => ("", "", "", false)
def tyJ9 : Nat → FieldType := fun k => match k with
  | _ => .int
abbrev wsJ90 : List Cond := u_ws RJ9 TJ9 0
theorem nmJ9 : ∀ a, a < 0 → ∀ b, b < 0 → a ≠ b → (TJ9 a).2.1 ≠ (TJ9 b).2.1 := by decide +kernel
theorem tyJ9_ok : ∀ k, k < 0 → parseFieldDescriptor (TJ9 k).2.2.1 = some (tyJ9 k) := by decide +kernel
abbrev cJ9_max_7cf53 : ByteArray := prog_13_method_65_code
def yJ9_max_7cf53 : MethodName := ⟨RJ9, "max", "(II)I"⟩
abbrev cJ9_min_7cf53 : ByteArray := prog_13_method_69_code
def yJ9_min_7cf53 : MethodName := ⟨RJ9, "min", "(II)I"⟩
def RJ0 : String := "java/lang/String"
def TJ0 : u_T := fun k => match k with
  | _ => ("", "", "", false)
def tyJ0 : Nat → FieldType := fun k => match k with
  | _ => .int
abbrev wsJ00 : List Cond := u_ws RJ0 TJ0 0
theorem nmJ0 : ∀ a, a < 0 → ∀ b, b < 0 → a ≠ b → (TJ0 a).2.1 ≠ (TJ0 b).2.1 := by decide +kernel
theorem tyJ0_ok : ∀ k, k < 0 → parseFieldDescriptor (TJ0 k).2.2.1 = some (tyJ0 k) := by decide +kernel
def RJ10 : String := "java/lang/System"
def TJ10 : u_T := fun k => match k with
  | _ => ("", "", "", false)
def tyJ10 : Nat → FieldType := fun k => match k with
  | _ => .int
abbrev wsJ100 : List Cond := u_ws RJ10 TJ10 0
theorem nmJ10 : ∀ a, a < 0 → ∀ b, b < 0 → a ≠ b → (TJ10 a).2.1 ≠ (TJ10 b).2.1 := by decide +kernel
theorem tyJ10_ok : ∀ k, k < 0 → parseFieldDescriptor (TJ10 k).2.2.1 = some (tyJ10 k) := by decide +kernel
def RL : String := "HerdCordsLaw"
abbrev cL_cell : ByteArray := method_2_code
def yL_cell : MethodName := ⟨RL, "cell", "([II)I"⟩
abbrev cL_low : ByteArray := method_3_code
def yL_low : MethodName := ⟨RL, "low", "(II)I"⟩
abbrev cL_number : ByteArray := method_4_code
def yL_number : MethodName := ⟨RL, "number", "(I)I"⟩
abbrev cL_change : ByteArray := method_5_code
def yL_change : MethodName := ⟨RL, "change", "(LHerdCords;II)Z"⟩
abbrev cL_ties : ByteArray := method_6_code
def yL_ties : MethodName := ⟨RL, "ties", "(LHerdCords;II)Z"⟩
abbrev cL_isCord : ByteArray := method_7_code
def yL_isCord : MethodName := ⟨RL, "isCord", "(LHerdCords;I)Z"⟩
abbrev cL_holds : ByteArray := method_8_code
def yL_holds : MethodName := ⟨RL, "holds", "(LHerdCords;I)Z"⟩
abbrev cL_bits : ByteArray := method_9_code
def yL_bits : MethodName := ⟨RL, "bits", "(I)I"⟩
abbrev cL_law : ByteArray := code
def yL_law : MethodName := ⟨RL, "law", "([I)Z"⟩
abbrev vwCl : List vw_C := [(RX0, TX0, 6), (RX1, TX1, 7), (RX2, TX2, 3), (RX3, TX3, 5), (RX4, TX4, 8)]
/-- the words that a call may carry: one list for all methods -/
def zW : List Cond := lw_tbl.filter goodWord
theorem zw_mem {w : Cond} (i : Nat) (h : lw_tbl[i]? = some w) (g : goodWord w = true) : w ∈ zW := List.mem_filter.mpr ⟨List.mem_of_getElem? h, g⟩
theorem zW_good : GoodIn zW zW := fun w h => ⟨h, good_of_word (List.mem_filter.mp h).2⟩
theorem zW_tbl : ∀ w ∈ zW, w ∈ lw_tbl := fun w h => (List.mem_filter.mp h).1
/-- a method's words: its code first -/
def zs (y : MethodName) (c : ByteArray) (n : Nat) (r : Option FieldType) : List Cond := Cond.code y c n r :: zW
theorem zs_good {y : MethodName} {c : ByteArray} {n : Nat} {r : Option FieldType} (h : Cond.code y c n r ∈ zW) : GoodIn zW (zs y c n r) := fun w hw => (List.mem_cons.mp hw).elim (fun e => by rw [e]; exact zW_good _ h) (zW_good w)
def zsH (y : MethodName) (c : ByteArray) (n : Nat) (r : Option FieldType) (hh : List (Nat × Nat × Nat × Nat)) : List Cond := Cond.codeWith y c n r hh :: zW
theorem zsH_good {y : MethodName} {c : ByteArray} {n : Nat} {r : Option FieldType} {hh : List (Nat × Nat × Nat × Nat)} (h : Cond.codeWith y c n r hh ∈ zW) : GoodIn zW (zsH y c n r hh) := fun w hw => (List.mem_cons.mp hw).elim (fun e => by rw [e]; exact zW_good _ h) (zW_good w)
theorem q1 : Cond.selects "HerdCords" ⟨"HerdCords", "cordAt", "(I)LHerdCords$Cord;"⟩ ⟨"HerdCords", "cordAt", "(I)LHerdCords$Cord;"⟩ ∈ zW := zw_mem 1 (by decide +kernel) (by decide +kernel)
theorem q2 : Cond.selects "HerdCords$Cord" ⟨"HerdCords$Cord", "loopsFor", "(II)I"⟩ ⟨"HerdCords$Cord", "loopsFor", "(II)I"⟩ ∈ zW := zw_mem 2 (by decide +kernel) (by decide +kernel)
theorem q3 : Cond.selects "HerdCords$Herd" ⟨"HerdCords$Herd", "countTied", "(LHerdCords$Cord;II)I"⟩ ⟨"HerdCords$Herd", "countTied", "(LHerdCords$Cord;II)I"⟩ ∈ zW := zw_mem 3 (by decide +kernel) (by decide +kernel)
theorem q4 : Cond.initialized "HerdCordsLaw" ∈ zW := zw_mem 4 (by decide +kernel) (by decide +kernel)
theorem q5 : Cond.initialized "HerdCords" ∈ zW := zw_mem 5 (by decide +kernel) (by decide +kernel)
theorem q6 : Cond.initialized "HerdCords$Herd" ∈ zW := zw_mem 6 (by decide +kernel) (by decide +kernel)
theorem q7 : Cond.initialized "HerdCords$Cord" ∈ zW := zw_mem 7 (by decide +kernel) (by decide +kernel)
theorem q8 : Cond.initialized "HerdCords$History" ∈ zW := zw_mem 8 (by decide +kernel) (by decide +kernel)
theorem q9 : Cond.initialized "HerdCords$OrderReader" ∈ zW := zw_mem 9 (by decide +kernel) (by decide +kernel)
theorem q13 : Cond.initialized "java/lang/IndexOutOfBoundsException" ∈ zW := zw_mem 13 (by decide +kernel) (by decide +kernel)
theorem q14 : Cond.initialized "java/lang/Math" ∈ zW := zw_mem 14 (by decide +kernel) (by decide +kernel)
theorem q15 : Cond.initialized "java/lang/IllegalArgumentException" ∈ zW := zw_mem 15 (by decide +kernel) (by decide +kernel)
theorem q16 : Cond.initialized "java/lang/Integer" ∈ zW := zw_mem 16 (by decide +kernel) (by decide +kernel)
theorem q17 : Cond.initialized "java/lang/System" ∈ zW := zw_mem 17 (by decide +kernel) (by decide +kernel)
theorem q18 : Cond.initialized "java/lang/IllegalStateException" ∈ zW := zw_mem 18 (by decide +kernel) (by decide +kernel)
theorem q19 : Cond.classLink "HerdCordsLaw" 16 "HerdCords" ∈ zW := zw_mem 19 (by decide +kernel) (by decide +kernel)
theorem q20 : Cond.instantiable "HerdCords" 8 ∈ zW := zw_mem 20 (by decide +kernel) (by decide +kernel)
theorem q21 : Cond.methodLink "HerdCordsLaw" 87 ⟨"HerdCords", "<init>", "()V"⟩ ∈ zW := zw_mem 21 (by decide +kernel) (by decide +kernel)
theorem q22 : Cond.instanceMethod ⟨"HerdCords", "<init>", "()V"⟩ ∈ zW := zw_mem 22 (by decide +kernel) (by decide +kernel)
theorem q23 : Cond.code ⟨"HerdCords", "<init>", "()V"⟩ prog_1_method_1_code 1 none ∈ zW := zw_mem 23 (by decide +kernel) (by decide +kernel)
theorem q24 : Cond.methodLink "HerdCords" 1 ⟨"java/lang/Object", "<init>", "()V"⟩ ∈ zW := zw_mem 24 (by decide +kernel) (by decide +kernel)
theorem q25 : Cond.instanceMethod ⟨"java/lang/Object", "<init>", "()V"⟩ ∈ zW := zw_mem 25 (by decide +kernel) (by decide +kernel)
theorem q26 : Cond.code ⟨"java/lang/Object", "<init>", "()V"⟩ object_method_1_code 1 none ∈ zW := zw_mem 26 (by decide +kernel) (by decide +kernel)
theorem q27 : Cond.classLink "HerdCords" 7 "HerdCords$Herd" ∈ zW := zw_mem 27 (by decide +kernel) (by decide +kernel)
theorem q28 : Cond.instantiable "HerdCords$Herd" 7 ∈ zW := zw_mem 28 (by decide +kernel) (by decide +kernel)
theorem q29 : Cond.methodLink "HerdCords" 9 ⟨"HerdCords$Herd", "<init>", "()V"⟩ ∈ zW := zw_mem 29 (by decide +kernel) (by decide +kernel)
theorem q30 : Cond.instanceMethod ⟨"HerdCords$Herd", "<init>", "()V"⟩ ∈ zW := zw_mem 30 (by decide +kernel) (by decide +kernel)
theorem q31 : Cond.code ⟨"HerdCords$Herd", "<init>", "()V"⟩ prog_3_method_1_code 2 none ∈ zW := zw_mem 31 (by decide +kernel) (by decide +kernel)
theorem q32 : Cond.methodLink "HerdCords$Herd" 3 ⟨"java/lang/Object", "<init>", "()V"⟩ ∈ zW := zw_mem 32 (by decide +kernel) (by decide +kernel)
theorem q33 : Cond.classLink "HerdCords$Herd" 9 "HerdCords$Cord" ∈ zW := zw_mem 33 (by decide +kernel) (by decide +kernel)
theorem q35 : Cond.instantiable "HerdCords$Cord" 6 ∈ zW := zw_mem 35 (by decide +kernel) (by decide +kernel)
theorem q37 : Cond.instanceMethod ⟨"HerdCords$Cord", "<init>", "()V"⟩ ∈ zW := zw_mem 37 (by decide +kernel) (by decide +kernel)
theorem q38 : Cond.code ⟨"HerdCords$Cord", "<init>", "()V"⟩ prog_2_method_1_code 1 none ∈ zW := zw_mem 38 (by decide +kernel) (by decide +kernel)
theorem q39 : Cond.methodLink "HerdCords$Cord" 3 ⟨"java/lang/Object", "<init>", "()V"⟩ ∈ zW := zw_mem 39 (by decide +kernel) (by decide +kernel)
theorem q40 : Cond.fieldLink "HerdCords$Cord" 9 "HerdCords$Cord" "knots" "[I" ∈ zW := zw_mem 40 (by decide +kernel) (by decide +kernel)
theorem q41 : Cond.fieldLink "HerdCords$Herd" 80 "HerdCords$Cord" "knots" "[I" ∈ zW := zw_mem 41 (by decide +kernel) (by decide +kernel)
theorem q42 : Cond.fieldLink "HerdCords" 170 "HerdCords$Cord" "knots" "[I" ∈ zW := zw_mem 42 (by decide +kernel) (by decide +kernel)
theorem q43 : Cond.fieldLink "HerdCords$Cord" 15 "HerdCords$Cord" "loops" "[I" ∈ zW := zw_mem 43 (by decide +kernel) (by decide +kernel)
theorem q44 : Cond.fieldLink "HerdCords" 173 "HerdCords$Cord" "loops" "[I" ∈ zW := zw_mem 44 (by decide +kernel) (by decide +kernel)
theorem q45 : Cond.fieldLink "HerdCords$Cord" 18 "HerdCords$Cord" "parts" "[I" ∈ zW := zw_mem 45 (by decide +kernel) (by decide +kernel)
theorem q46 : Cond.fieldLink "HerdCords" 193 "HerdCords$Cord" "parts" "[I" ∈ zW := zw_mem 46 (by decide +kernel) (by decide +kernel)
theorem q47 : Cond.fieldLink "HerdCords$Cord" 21 "HerdCords$Cord" "partCount" "I" ∈ zW := zw_mem 47 (by decide +kernel) (by decide +kernel)
theorem q48 : Cond.fieldLink "HerdCords" 155 "HerdCords$Cord" "partCount" "I" ∈ zW := zw_mem 48 (by decide +kernel) (by decide +kernel)
theorem q49 : Cond.fieldLink "HerdCords$Cord" 25 "HerdCords$Cord" "hue" "I" ∈ zW := zw_mem 49 (by decide +kernel) (by decide +kernel)
theorem q50 : Cond.fieldLink "HerdCords" 96 "HerdCords$Cord" "hue" "I" ∈ zW := zw_mem 50 (by decide +kernel) (by decide +kernel)
theorem q51 : Cond.fieldLink "HerdCords$Herd" 91 "HerdCords$Cord" "hue" "I" ∈ zW := zw_mem 51 (by decide +kernel) (by decide +kernel)
theorem q52 : Cond.fieldLink "HerdCords$Cord" 28 "HerdCords$Cord" "slips" "I" ∈ zW := zw_mem 52 (by decide +kernel) (by decide +kernel)
theorem q53 : Cond.fieldLink "HerdCords$Herd" 84 "HerdCords$Cord" "slips" "I" ∈ zW := zw_mem 53 (by decide +kernel) (by decide +kernel)
theorem q54 : Cond.fieldLink "HerdCords" 165 "HerdCords$Cord" "slips" "I" ∈ zW := zw_mem 54 (by decide +kernel) (by decide +kernel)
theorem q68 : Cond.arrayClass FieldType.int ∈ zW := zw_mem 68 (by decide +kernel) (by decide +kernel)
theorem q69 : Cond.fieldLink "HerdCords$Herd" 11 "HerdCords$Herd" "cords" "[LHerdCords$Cord;" ∈ zW := zw_mem 69 (by decide +kernel) (by decide +kernel)
theorem q70 : Cond.fieldLink "HerdCords" 286 "HerdCords$Herd" "cords" "[LHerdCords$Cord;" ∈ zW := zw_mem 70 (by decide +kernel) (by decide +kernel)
theorem q71 : Cond.fieldLink "HerdCords$Herd" 17 "HerdCords$Herd" "room" "I" ∈ zW := zw_mem 71 (by decide +kernel) (by decide +kernel)
theorem q72 : Cond.fieldLink "HerdCords" 101 "HerdCords$Herd" "room" "I" ∈ zW := zw_mem 72 (by decide +kernel) (by decide +kernel)
theorem q73 : Cond.fieldLink "HerdCords$Herd" 21 "HerdCords$Herd" "knotsTied" "I" ∈ zW := zw_mem 73 (by decide +kernel) (by decide +kernel)
theorem q74 : Cond.fieldLink "HerdCords" 197 "HerdCords$Herd" "knotsTied" "I" ∈ zW := zw_mem 74 (by decide +kernel) (by decide +kernel)
theorem q75 : Cond.fieldLink "HerdCords$Herd" 24 "HerdCords$Herd" "loopsTied" "I" ∈ zW := zw_mem 75 (by decide +kernel) (by decide +kernel)
theorem q76 : Cond.fieldLink "HerdCords" 200 "HerdCords$Herd" "loopsTied" "I" ∈ zW := zw_mem 76 (by decide +kernel) (by decide +kernel)
theorem q77 : Cond.fieldLink "HerdCords$Herd" 27 "HerdCords$Herd" "slips" "I" ∈ zW := zw_mem 77 (by decide +kernel) (by decide +kernel)
theorem q78 : Cond.fieldLink "HerdCords" 203 "HerdCords$Herd" "slips" "I" ∈ zW := zw_mem 78 (by decide +kernel) (by decide +kernel)
theorem q79 : Cond.fieldLink "HerdCords$Herd" 30 "HerdCords$Herd" "gone" "I" ∈ zW := zw_mem 79 (by decide +kernel) (by decide +kernel)
theorem q80 : Cond.fieldLink "HerdCords" 204 "HerdCords$Herd" "gone" "I" ∈ zW := zw_mem 80 (by decide +kernel) (by decide +kernel)
theorem q81 : Cond.fieldLink "HerdCords$Herd" 33 "HerdCords$Herd" "refused" "I" ∈ zW := zw_mem 81 (by decide +kernel) (by decide +kernel)
theorem q82 : Cond.fieldLink "HerdCords" 207 "HerdCords$Herd" "refused" "I" ∈ zW := zw_mem 82 (by decide +kernel) (by decide +kernel)
theorem q98 : Cond.classLink "HerdCords" 16 "HerdCords$History" ∈ zW := zw_mem 98 (by decide +kernel) (by decide +kernel)
theorem q99 : Cond.instantiable "HerdCords$History" 3 ∈ zW := zw_mem 99 (by decide +kernel) (by decide +kernel)
theorem q100 : Cond.methodLink "HerdCords" 18 ⟨"HerdCords$History", "<init>", "()V"⟩ ∈ zW := zw_mem 100 (by decide +kernel) (by decide +kernel)
theorem q101 : Cond.instanceMethod ⟨"HerdCords$History", "<init>", "()V"⟩ ∈ zW := zw_mem 101 (by decide +kernel) (by decide +kernel)
theorem q102 : Cond.code ⟨"HerdCords$History", "<init>", "()V"⟩ prog_4_method_1_code 2 none ∈ zW := zw_mem 102 (by decide +kernel) (by decide +kernel)
theorem q103 : Cond.methodLink "HerdCords$History" 3 ⟨"java/lang/Object", "<init>", "()V"⟩ ∈ zW := zw_mem 103 (by decide +kernel) (by decide +kernel)
theorem q104 : Cond.classLink "HerdCords$History" 9 "HerdCords$Herd" ∈ zW := zw_mem 104 (by decide +kernel) (by decide +kernel)
theorem q106 : Cond.methodLink "HerdCords$History" 24 ⟨"HerdCords$Herd", "<init>", "()V"⟩ ∈ zW := zw_mem 106 (by decide +kernel) (by decide +kernel)
theorem q107 : Cond.fieldLink "HerdCords$History" 11 "HerdCords$History" "saved" "[LHerdCords$Herd;" ∈ zW := zw_mem 107 (by decide +kernel) (by decide +kernel)
theorem q108 : Cond.fieldLink "HerdCords$History" 17 "HerdCords$History" "next" "I" ∈ zW := zw_mem 108 (by decide +kernel) (by decide +kernel)
theorem q109 : Cond.fieldLink "HerdCords$History" 21 "HerdCords$History" "size" "I" ∈ zW := zw_mem 109 (by decide +kernel) (by decide +kernel)
theorem q110 : Cond.fieldLink "HerdCords" 142 "HerdCords$History" "size" "I" ∈ zW := zw_mem 110 (by decide +kernel) (by decide +kernel)
theorem q118 : Cond.classLink "HerdCords" 35 "HerdCords$OrderReader" ∈ zW := zw_mem 118 (by decide +kernel) (by decide +kernel)
theorem q119 : Cond.instantiable "HerdCords$OrderReader" 5 ∈ zW := zw_mem 119 (by decide +kernel) (by decide +kernel)
theorem q121 : Cond.instanceMethod ⟨"HerdCords$OrderReader", "<init>", "()V"⟩ ∈ zW := zw_mem 121 (by decide +kernel) (by decide +kernel)
theorem q122 : Cond.code ⟨"HerdCords$OrderReader", "<init>", "()V"⟩ prog_5_method_1_code 1 none ∈ zW := zw_mem 122 (by decide +kernel) (by decide +kernel)
theorem q123 : Cond.methodLink "HerdCords$OrderReader" 3 ⟨"java/lang/Object", "<init>", "()V"⟩ ∈ zW := zw_mem 123 (by decide +kernel) (by decide +kernel)
theorem q124 : Cond.fieldLink "HerdCords$OrderReader" 11 "HerdCords$OrderReader" "step" "I" ∈ zW := zw_mem 124 (by decide +kernel) (by decide +kernel)
theorem q125 : Cond.fieldLink "HerdCords$OrderReader" 15 "HerdCords$OrderReader" "digits" "I" ∈ zW := zw_mem 125 (by decide +kernel) (by decide +kernel)
theorem q126 : Cond.fieldLink "HerdCords$OrderReader" 18 "HerdCords$OrderReader" "cord" "I" ∈ zW := zw_mem 126 (by decide +kernel) (by decide +kernel)
theorem q127 : Cond.fieldLink "HerdCords$OrderReader" 21 "HerdCords$OrderReader" "kind" "C" ∈ zW := zw_mem 127 (by decide +kernel) (by decide +kernel)
theorem q128 : Cond.fieldLink "HerdCords$OrderReader" 25 "HerdCords$OrderReader" "value" "I" ∈ zW := zw_mem 128 (by decide +kernel) (by decide +kernel)
theorem q140 : Cond.arrayClass FieldType.char ∈ zW := zw_mem 140 (by decide +kernel) (by decide +kernel)
theorem q141 : Cond.classLink "HerdCords" 42 "HerdCords$Cord" ∈ zW := zw_mem 141 (by decide +kernel) (by decide +kernel)
theorem q143 : Cond.fieldLink "HerdCords" 10 "HerdCords" "herd" "LHerdCords$Herd;" ∈ zW := zw_mem 143 (by decide +kernel) (by decide +kernel)
theorem q144 : Cond.fieldLink "HerdCords" 19 "HerdCords" "history" "LHerdCords$History;" ∈ zW := zw_mem 144 (by decide +kernel) (by decide +kernel)
theorem q145 : Cond.fieldLink "HerdCords" 23 "HerdCords" "snapshots" "[LHerdCords$Herd;" ∈ zW := zw_mem 145 (by decide +kernel) (by decide +kernel)
theorem q146 : Cond.fieldLink "HerdCords" 27 "HerdCords" "buffer" "[C" ∈ zW := zw_mem 146 (by decide +kernel) (by decide +kernel)
theorem q147 : Cond.fieldLink "HerdCords" 31 "HerdCords" "length" "I" ∈ zW := zw_mem 147 (by decide +kernel) (by decide +kernel)
theorem q148 : Cond.fieldLink "HerdCords" 38 "HerdCords" "reader" "LHerdCords$OrderReader;" ∈ zW := zw_mem 148 (by decide +kernel) (by decide +kernel)
theorem q149 : Cond.fieldLink "HerdCords" 45 "HerdCords" "trial" "LHerdCords$Cord;" ∈ zW := zw_mem 149 (by decide +kernel) (by decide +kernel)
theorem q150 : Cond.fieldLink "HerdCords" 49 "HerdCords" "told" "[I" ∈ zW := zw_mem 150 (by decide +kernel) (by decide +kernel)
theorem q168 : Cond.methodLink "HerdCordsLaw" 91 ⟨"HerdCords", "keep", "(I)I"⟩ ∈ zW := zw_mem 168 (by decide +kernel) (by decide +kernel)
theorem q169 : Cond.instanceMethod ⟨"HerdCords", "keep", "(I)I"⟩ ∈ zW := zw_mem 169 (by decide +kernel) (by decide +kernel)
theorem q170 : Cond.selects "HerdCords" ⟨"HerdCords", "keep", "(I)I"⟩ ⟨"HerdCords", "keep", "(I)I"⟩ ∈ zW := zw_mem 170 (by decide +kernel) (by decide +kernel)
theorem q171 : Cond.code ⟨"HerdCords", "keep", "(I)I"⟩ prog_1_method_13_code 3 (some .int) ∈ zW := zw_mem 171 (by decide +kernel) (by decide +kernel)
theorem q172 : Cond.methodLink "HerdCords" 131 ⟨"HerdCords", "checkSlot", "(I)V"⟩ ∈ zW := zw_mem 172 (by decide +kernel) (by decide +kernel)
theorem q173 : Cond.static ⟨"HerdCords", "checkSlot", "(I)V"⟩ ∈ zW := zw_mem 173 (by decide +kernel) (by decide +kernel)
theorem q174 : Cond.code ⟨"HerdCords", "checkSlot", "(I)V"⟩ prog_1_method_31_code 1 none ∈ zW := zw_mem 174 (by decide +kernel) (by decide +kernel)
theorem q175 : Cond.classLink "HerdCords" 69 "java/lang/IllegalArgumentException" ∈ zW := zw_mem 175 (by decide +kernel) (by decide +kernel)
theorem q176 : Cond.instantiable "java/lang/IllegalArgumentException" 6 ∈ zW := zw_mem 176 (by decide +kernel) (by decide +kernel)
theorem q217 : Cond.methodLink "HerdCords" 73 ⟨"java/lang/IllegalArgumentException", "<init>", "(Ljava/lang/String;)V"⟩ ∈ zW := zw_mem 217 (by decide +kernel) (by decide +kernel)
theorem q218 : Cond.instanceMethod ⟨"java/lang/IllegalArgumentException", "<init>", "(Ljava/lang/String;)V"⟩ ∈ zW := zw_mem 218 (by decide +kernel) (by decide +kernel)
theorem q219 : Cond.code ⟨"java/lang/IllegalArgumentException", "<init>", "(Ljava/lang/String;)V"⟩ prog_9_method_2_code 2 none ∈ zW := zw_mem 219 (by decide +kernel) (by decide +kernel)
theorem q242 : Cond.arrayClass FieldType.byte ∈ zW := zw_mem 242 (by decide +kernel) (by decide +kernel)
theorem q243 : Cond.methodLink "HerdCords" 134 ⟨"HerdCords$Herd", "copyFrom", "(LHerdCords$Herd;)V"⟩ ∈ zW := zw_mem 243 (by decide +kernel) (by decide +kernel)
theorem q244 : Cond.instanceMethod ⟨"HerdCords$Herd", "copyFrom", "(LHerdCords$Herd;)V"⟩ ∈ zW := zw_mem 244 (by decide +kernel) (by decide +kernel)
theorem q245 : Cond.selects "HerdCords$Herd" ⟨"HerdCords$Herd", "copyFrom", "(LHerdCords$Herd;)V"⟩ ⟨"HerdCords$Herd", "copyFrom", "(LHerdCords$Herd;)V"⟩ ∈ zW := zw_mem 245 (by decide +kernel) (by decide +kernel)
theorem q246 : Cond.code ⟨"HerdCords$Herd", "copyFrom", "(LHerdCords$Herd;)V"⟩ prog_3_method_2_code 3 none ∈ zW := zw_mem 246 (by decide +kernel) (by decide +kernel)
theorem q247 : Cond.methodLink "HerdCords$Herd" 37 ⟨"HerdCords$Cord", "copyFrom", "(LHerdCords$Cord;)V"⟩ ∈ zW := zw_mem 247 (by decide +kernel) (by decide +kernel)
theorem q248 : Cond.instanceMethod ⟨"HerdCords$Cord", "copyFrom", "(LHerdCords$Cord;)V"⟩ ∈ zW := zw_mem 248 (by decide +kernel) (by decide +kernel)
theorem q249 : Cond.selects "HerdCords$Cord" ⟨"HerdCords$Cord", "copyFrom", "(LHerdCords$Cord;)V"⟩ ⟨"HerdCords$Cord", "copyFrom", "(LHerdCords$Cord;)V"⟩ ∈ zW := zw_mem 249 (by decide +kernel) (by decide +kernel)
theorem q250 : Cond.code ⟨"HerdCords$Cord", "copyFrom", "(LHerdCords$Cord;)V"⟩ prog_2_method_2_code 2 none ∈ zW := zw_mem 250 (by decide +kernel) (by decide +kernel)
theorem q251 : Cond.methodLink "HerdCords$Cord" 31 ⟨"java/lang/System", "arraycopy", "(Ljava/lang/Object;ILjava/lang/Object;II)V"⟩ ∈ zW := zw_mem 251 (by decide +kernel) (by decide +kernel)
theorem q252 : Cond.static ⟨"java/lang/System", "arraycopy", "(Ljava/lang/Object;ILjava/lang/Object;II)V"⟩ ∈ zW := zw_mem 252 (by decide +kernel) (by decide +kernel)
theorem q253 : Cond.native ⟨"java/lang/System", "arraycopy", "(Ljava/lang/Object;ILjava/lang/Object;II)V"⟩ ∈ zW := zw_mem 253 (by decide +kernel) (by decide +kernel)
theorem q254 : Cond.methodLink "HerdCords" 137 ⟨"HerdCords$Herd", "ties", "()I"⟩ ∈ zW := zw_mem 254 (by decide +kernel) (by decide +kernel)
theorem q255 : Cond.instanceMethod ⟨"HerdCords$Herd", "ties", "()I"⟩ ∈ zW := zw_mem 255 (by decide +kernel) (by decide +kernel)
theorem q256 : Cond.selects "HerdCords$Herd" ⟨"HerdCords$Herd", "ties", "()I"⟩ ⟨"HerdCords$Herd", "ties", "()I"⟩ ∈ zW := zw_mem 256 (by decide +kernel) (by decide +kernel)
theorem q257 : Cond.code ⟨"HerdCords$Herd", "ties", "()I"⟩ prog_3_method_14_code 1 (some .int) ∈ zW := zw_mem 257 (by decide +kernel) (by decide +kernel)
theorem q258 : Cond.methodLink "HerdCords$Herd" 94 ⟨"HerdCords$Herd", "knots", "()I"⟩ ∈ zW := zw_mem 258 (by decide +kernel) (by decide +kernel)
theorem q259 : Cond.instanceMethod ⟨"HerdCords$Herd", "knots", "()I"⟩ ∈ zW := zw_mem 259 (by decide +kernel) (by decide +kernel)
theorem q260 : Cond.selects "HerdCords$Herd" ⟨"HerdCords$Herd", "knots", "()I"⟩ ⟨"HerdCords$Herd", "knots", "()I"⟩ ∈ zW := zw_mem 260 (by decide +kernel) (by decide +kernel)
theorem q261 : Cond.code ⟨"HerdCords$Herd", "knots", "()I"⟩ prog_3_method_12_code 6 (some .int) ∈ zW := zw_mem 261 (by decide +kernel) (by decide +kernel)
theorem q262 : Cond.methodLink "HerdCords$Herd" 45 ⟨"HerdCords$Cord", "allKnots", "()I"⟩ ∈ zW := zw_mem 262 (by decide +kernel) (by decide +kernel)
theorem q263 : Cond.instanceMethod ⟨"HerdCords$Cord", "allKnots", "()I"⟩ ∈ zW := zw_mem 263 (by decide +kernel) (by decide +kernel)
theorem q264 : Cond.selects "HerdCords$Cord" ⟨"HerdCords$Cord", "allKnots", "()I"⟩ ⟨"HerdCords$Cord", "allKnots", "()I"⟩ ∈ zW := zw_mem 264 (by decide +kernel) (by decide +kernel)
theorem q265 : Cond.code ⟨"HerdCords$Cord", "allKnots", "()I"⟩ prog_2_method_9_code 1 (some .int) ∈ zW := zw_mem 265 (by decide +kernel) (by decide +kernel)
theorem q266 : Cond.methodLink "HerdCords$Cord" 41 ⟨"HerdCords$Cord", "sumOf", "([II)I"⟩ ∈ zW := zw_mem 266 (by decide +kernel) (by decide +kernel)
theorem q267 : Cond.static ⟨"HerdCords$Cord", "sumOf", "([II)I"⟩ ∈ zW := zw_mem 267 (by decide +kernel) (by decide +kernel)
theorem q268 : Cond.code ⟨"HerdCords$Cord", "sumOf", "([II)I"⟩ prog_2_method_17_code 4 (some .int) ∈ zW := zw_mem 268 (by decide +kernel) (by decide +kernel)
theorem q269 : Cond.methodLink "HerdCords$Herd" 96 ⟨"HerdCords$Herd", "loops", "()I"⟩ ∈ zW := zw_mem 269 (by decide +kernel) (by decide +kernel)
theorem q270 : Cond.instanceMethod ⟨"HerdCords$Herd", "loops", "()I"⟩ ∈ zW := zw_mem 270 (by decide +kernel) (by decide +kernel)
theorem q271 : Cond.selects "HerdCords$Herd" ⟨"HerdCords$Herd", "loops", "()I"⟩ ⟨"HerdCords$Herd", "loops", "()I"⟩ ∈ zW := zw_mem 271 (by decide +kernel) (by decide +kernel)
theorem q272 : Cond.code ⟨"HerdCords$Herd", "loops", "()I"⟩ prog_3_method_13_code 6 (some .int) ∈ zW := zw_mem 272 (by decide +kernel) (by decide +kernel)
theorem q273 : Cond.methodLink "HerdCords$Herd" 49 ⟨"HerdCords$Cord", "allLoops", "()I"⟩ ∈ zW := zw_mem 273 (by decide +kernel) (by decide +kernel)
theorem q274 : Cond.instanceMethod ⟨"HerdCords$Cord", "allLoops", "()I"⟩ ∈ zW := zw_mem 274 (by decide +kernel) (by decide +kernel)
theorem q275 : Cond.selects "HerdCords$Cord" ⟨"HerdCords$Cord", "allLoops", "()I"⟩ ⟨"HerdCords$Cord", "allLoops", "()I"⟩ ∈ zW := zw_mem 275 (by decide +kernel) (by decide +kernel)
theorem q276 : Cond.code ⟨"HerdCords$Cord", "allLoops", "()I"⟩ prog_2_method_10_code 1 (some .int) ∈ zW := zw_mem 276 (by decide +kernel) (by decide +kernel)
theorem q277 : Cond.methodLink "HerdCordsLaw" 101 ⟨"HerdCords", "goBack", "(I)I"⟩ ∈ zW := zw_mem 277 (by decide +kernel) (by decide +kernel)
theorem q278 : Cond.instanceMethod ⟨"HerdCords", "goBack", "(I)I"⟩ ∈ zW := zw_mem 278 (by decide +kernel) (by decide +kernel)
theorem q279 : Cond.selects "HerdCords" ⟨"HerdCords", "goBack", "(I)I"⟩ ⟨"HerdCords", "goBack", "(I)I"⟩ ∈ zW := zw_mem 279 (by decide +kernel) (by decide +kernel)
theorem q280 : Cond.code ⟨"HerdCords", "goBack", "(I)I"⟩ prog_1_method_14_code 3 (some .int) ∈ zW := zw_mem 280 (by decide +kernel) (by decide +kernel)
theorem q281 : Cond.classLink "HerdCords" 106 "java/lang/IllegalStateException" ∈ zW := zw_mem 281 (by decide +kernel) (by decide +kernel)
theorem q282 : Cond.instantiable "java/lang/IllegalStateException" 6 ∈ zW := zw_mem 282 (by decide +kernel) (by decide +kernel)
theorem q291 : Cond.methodLink "HerdCords" 110 ⟨"java/lang/IllegalStateException", "<init>", "(Ljava/lang/String;)V"⟩ ∈ zW := zw_mem 291 (by decide +kernel) (by decide +kernel)
theorem q292 : Cond.instanceMethod ⟨"java/lang/IllegalStateException", "<init>", "(Ljava/lang/String;)V"⟩ ∈ zW := zw_mem 292 (by decide +kernel) (by decide +kernel)
theorem q293 : Cond.code ⟨"java/lang/IllegalStateException", "<init>", "(Ljava/lang/String;)V"⟩ prog_10_method_2_code 2 none ∈ zW := zw_mem 293 (by decide +kernel) (by decide +kernel)
theorem q297 : Cond.methodLink "HerdCords" 61 ⟨"HerdCords$History", "save", "(LHerdCords$Herd;)V"⟩ ∈ zW := zw_mem 297 (by decide +kernel) (by decide +kernel)
theorem q298 : Cond.instanceMethod ⟨"HerdCords$History", "save", "(LHerdCords$Herd;)V"⟩ ∈ zW := zw_mem 298 (by decide +kernel) (by decide +kernel)
theorem q299 : Cond.selects "HerdCords$History" ⟨"HerdCords$History", "save", "(LHerdCords$Herd;)V"⟩ ⟨"HerdCords$History", "save", "(LHerdCords$Herd;)V"⟩ ∈ zW := zw_mem 299 (by decide +kernel) (by decide +kernel)
theorem q300 : Cond.code ⟨"HerdCords$History", "save", "(LHerdCords$Herd;)V"⟩ prog_4_method_2_code 2 none ∈ zW := zw_mem 300 (by decide +kernel) (by decide +kernel)
theorem q301 : Cond.methodLink "HerdCords$History" 25 ⟨"HerdCords$Herd", "copyFrom", "(LHerdCords$Herd;)V"⟩ ∈ zW := zw_mem 301 (by decide +kernel) (by decide +kernel)
theorem q302 : Cond.methodLink "HerdCords$History" 29 ⟨"java/lang/Math", "min", "(II)I"⟩ ∈ zW := zw_mem 302 (by decide +kernel) (by decide +kernel)
theorem q303 : Cond.static ⟨"java/lang/Math", "min", "(II)I"⟩ ∈ zW := zw_mem 303 (by decide +kernel) (by decide +kernel)
theorem q304 : Cond.code ⟨"java/lang/Math", "min", "(II)I"⟩ prog_13_method_69_code 2 (some .int) ∈ zW := zw_mem 304 (by decide +kernel) (by decide +kernel)
theorem q305 : Cond.methodLink "HerdCordsLaw" 104 ⟨"HerdCords", "undo", "()I"⟩ ∈ zW := zw_mem 305 (by decide +kernel) (by decide +kernel)
theorem q306 : Cond.instanceMethod ⟨"HerdCords", "undo", "()I"⟩ ∈ zW := zw_mem 306 (by decide +kernel) (by decide +kernel)
theorem q307 : Cond.selects "HerdCords" ⟨"HerdCords", "undo", "()I"⟩ ⟨"HerdCords", "undo", "()I"⟩ ∈ zW := zw_mem 307 (by decide +kernel) (by decide +kernel)
theorem q308 : Cond.code ⟨"HerdCords", "undo", "()I"⟩ prog_1_method_15_code 1 (some .int) ∈ zW := zw_mem 308 (by decide +kernel) (by decide +kernel)
theorem q310 : Cond.methodLink "HerdCords" 147 ⟨"HerdCords$History", "restore", "(LHerdCords$Herd;)V"⟩ ∈ zW := zw_mem 310 (by decide +kernel) (by decide +kernel)
theorem q311 : Cond.instanceMethod ⟨"HerdCords$History", "restore", "(LHerdCords$Herd;)V"⟩ ∈ zW := zw_mem 311 (by decide +kernel) (by decide +kernel)
theorem q312 : Cond.selects "HerdCords$History" ⟨"HerdCords$History", "restore", "(LHerdCords$Herd;)V"⟩ ⟨"HerdCords$History", "restore", "(LHerdCords$Herd;)V"⟩ ∈ zW := zw_mem 312 (by decide +kernel) (by decide +kernel)
theorem q313 : Cond.code ⟨"HerdCords$History", "restore", "(LHerdCords$Herd;)V"⟩ prog_4_method_3_code 2 none ∈ zW := zw_mem 313 (by decide +kernel) (by decide +kernel)
theorem q314 : Cond.methodLink "HerdCordsLaw" 20 ⟨"HerdCords", "count", "(I)I"⟩ ∈ zW := zw_mem 314 (by decide +kernel) (by decide +kernel)
theorem q315 : Cond.instanceMethod ⟨"HerdCords", "count", "(I)I"⟩ ∈ zW := zw_mem 315 (by decide +kernel) (by decide +kernel)
theorem q316 : Cond.selects "HerdCords" ⟨"HerdCords", "count", "(I)I"⟩ ⟨"HerdCords", "count", "(I)I"⟩ ∈ zW := zw_mem 316 (by decide +kernel) (by decide +kernel)
theorem q317 : Cond.code ⟨"HerdCords", "count", "(I)I"⟩ prog_1_method_19_code 2 (some .int) ∈ zW := zw_mem 317 (by decide +kernel) (by decide +kernel)
theorem q318 : Cond.methodLink "HerdCords" 196 ⟨"HerdCords$Herd", "told", "()I"⟩ ∈ zW := zw_mem 318 (by decide +kernel) (by decide +kernel)
theorem q319 : Cond.instanceMethod ⟨"HerdCords$Herd", "told", "()I"⟩ ∈ zW := zw_mem 319 (by decide +kernel) (by decide +kernel)
theorem q320 : Cond.selects "HerdCords$Herd" ⟨"HerdCords$Herd", "told", "()I"⟩ ⟨"HerdCords$Herd", "told", "()I"⟩ ∈ zW := zw_mem 320 (by decide +kernel) (by decide +kernel)
theorem q321 : Cond.code ⟨"HerdCords$Herd", "told", "()I"⟩ prog_3_method_10_code 6 (some .int) ∈ zW := zw_mem 321 (by decide +kernel) (by decide +kernel)
theorem q322 : Cond.methodLink "HerdCords$Herd" 60 ⟨"HerdCords$Cord", "told", "()I"⟩ ∈ zW := zw_mem 322 (by decide +kernel) (by decide +kernel)
theorem q323 : Cond.instanceMethod ⟨"HerdCords$Cord", "told", "()I"⟩ ∈ zW := zw_mem 323 (by decide +kernel) (by decide +kernel)
theorem q324 : Cond.selects "HerdCords$Cord" ⟨"HerdCords$Cord", "told", "()I"⟩ ⟨"HerdCords$Cord", "told", "()I"⟩ ∈ zW := zw_mem 324 (by decide +kernel) (by decide +kernel)
theorem q325 : Cond.code ⟨"HerdCords$Cord", "told", "()I"⟩ prog_2_method_6_code 3 (some .int) ∈ zW := zw_mem 325 (by decide +kernel) (by decide +kernel)
theorem q326 : Cond.methodLink "HerdCords$Cord" 37 ⟨"HerdCords$Cord", "open", "(I)I"⟩ ∈ zW := zw_mem 326 (by decide +kernel) (by decide +kernel)
theorem q327 : Cond.instanceMethod ⟨"HerdCords$Cord", "open", "(I)I"⟩ ∈ zW := zw_mem 327 (by decide +kernel) (by decide +kernel)
theorem q328 : Cond.selects "HerdCords$Cord" ⟨"HerdCords$Cord", "open", "(I)I"⟩ ⟨"HerdCords$Cord", "open", "(I)I"⟩ ∈ zW := zw_mem 328 (by decide +kernel) (by decide +kernel)
theorem q329 : Cond.code ⟨"HerdCords$Cord", "open", "(I)I"⟩ prog_2_method_4_code 2 (some .int) ∈ zW := zw_mem 329 (by decide +kernel) (by decide +kernel)
theorem q330 : Cond.methodLink "HerdCords" 210 ⟨"HerdCords$Herd", "lacking", "()I"⟩ ∈ zW := zw_mem 330 (by decide +kernel) (by decide +kernel)
theorem q331 : Cond.instanceMethod ⟨"HerdCords$Herd", "lacking", "()I"⟩ ∈ zW := zw_mem 331 (by decide +kernel) (by decide +kernel)
theorem q332 : Cond.selects "HerdCords$Herd" ⟨"HerdCords$Herd", "lacking", "()I"⟩ ⟨"HerdCords$Herd", "lacking", "()I"⟩ ∈ zW := zw_mem 332 (by decide +kernel) (by decide +kernel)
theorem q333 : Cond.code ⟨"HerdCords$Herd", "lacking", "()I"⟩ prog_3_method_15_code 6 (some .int) ∈ zW := zw_mem 333 (by decide +kernel) (by decide +kernel)
theorem q334 : Cond.methodLink "HerdCords$Herd" 67 ⟨"HerdCords$Cord", "lack", "()I"⟩ ∈ zW := zw_mem 334 (by decide +kernel) (by decide +kernel)
theorem q335 : Cond.instanceMethod ⟨"HerdCords$Cord", "lack", "()I"⟩ ∈ zW := zw_mem 335 (by decide +kernel) (by decide +kernel)
theorem q336 : Cond.selects "HerdCords$Cord" ⟨"HerdCords$Cord", "lack", "()I"⟩ ⟨"HerdCords$Cord", "lack", "()I"⟩ ∈ zW := zw_mem 336 (by decide +kernel) (by decide +kernel)
theorem q337 : Cond.code ⟨"HerdCords$Cord", "lack", "()I"⟩ prog_2_method_8_code 1 (some .int) ∈ zW := zw_mem 337 (by decide +kernel) (by decide +kernel)
theorem q338 : Cond.methodLink "HerdCords$Cord" 45 ⟨"HerdCords$Cord", "partsTogether", "()I"⟩ ∈ zW := zw_mem 338 (by decide +kernel) (by decide +kernel)
theorem q339 : Cond.instanceMethod ⟨"HerdCords$Cord", "partsTogether", "()I"⟩ ∈ zW := zw_mem 339 (by decide +kernel) (by decide +kernel)
theorem q340 : Cond.selects "HerdCords$Cord" ⟨"HerdCords$Cord", "partsTogether", "()I"⟩ ⟨"HerdCords$Cord", "partsTogether", "()I"⟩ ∈ zW := zw_mem 340 (by decide +kernel) (by decide +kernel)
theorem q341 : Cond.code ⟨"HerdCords$Cord", "partsTogether", "()I"⟩ prog_2_method_7_code 1 (some .int) ∈ zW := zw_mem 341 (by decide +kernel) (by decide +kernel)
theorem q342 : Cond.methodLink "HerdCords$Cord" 49 ⟨"HerdCords$Cord", "told", "()I"⟩ ∈ zW := zw_mem 342 (by decide +kernel) (by decide +kernel)
theorem q344 : Cond.methodLink "HerdCordsLaw" 94 ⟨"HerdCordsLaw", "cell", "([II)I"⟩ ∈ zW := zw_mem 344 (by decide +kernel) (by decide +kernel)
theorem q345 : Cond.static ⟨"HerdCordsLaw", "cell", "([II)I"⟩ ∈ zW := zw_mem 345 (by decide +kernel) (by decide +kernel)
theorem q347 : Cond.constant "HerdCordsLaw" 7 (40503) ∈ zW := zw_mem 347 (by decide +kernel) (by decide +kernel)
theorem q348 : Cond.methodLink "HerdCordsLaw" 98 ⟨"HerdCordsLaw", "change", "(LHerdCords;II)Z"⟩ ∈ zW := zw_mem 348 (by decide +kernel) (by decide +kernel)
theorem q349 : Cond.static ⟨"HerdCordsLaw", "change", "(LHerdCords;II)Z"⟩ ∈ zW := zw_mem 349 (by decide +kernel) (by decide +kernel)
theorem q351 : Cond.methodLink "HerdCordsLaw" 9 ⟨"HerdCordsLaw", "low", "(II)I"⟩ ∈ zW := zw_mem 351 (by decide +kernel) (by decide +kernel)
theorem q352 : Cond.static ⟨"HerdCordsLaw", "low", "(II)I"⟩ ∈ zW := zw_mem 352 (by decide +kernel) (by decide +kernel)
theorem q354 : Cond.constant "HerdCordsLaw" 8 (2147483647) ∈ zW := zw_mem 354 (by decide +kernel) (by decide +kernel)
theorem q355 : Cond.methodLink "HerdCordsLaw" 15 ⟨"HerdCords", "cordOf", "(II)I"⟩ ∈ zW := zw_mem 355 (by decide +kernel) (by decide +kernel)
theorem q356 : Cond.instanceMethod ⟨"HerdCords", "cordOf", "(II)I"⟩ ∈ zW := zw_mem 356 (by decide +kernel) (by decide +kernel)
theorem q357 : Cond.selects "HerdCords" ⟨"HerdCords", "cordOf", "(II)I"⟩ ⟨"HerdCords", "cordOf", "(II)I"⟩ ∈ zW := zw_mem 357 (by decide +kernel) (by decide +kernel)
theorem q358 : Cond.code ⟨"HerdCords", "cordOf", "(II)I"⟩ prog_1_method_16_code 4 (some .int) ∈ zW := zw_mem 358 (by decide +kernel) (by decide +kernel)
theorem q359 : Cond.methodLink "HerdCords" 53 ⟨"HerdCords", "cordAt", "(I)LHerdCords$Cord;"⟩ ∈ zW := zw_mem 359 (by decide +kernel) (by decide +kernel)
theorem q361 : Cond.instanceMethod ⟨"HerdCords", "cordAt", "(I)LHerdCords$Cord;"⟩ ∈ zW := zw_mem 361 (by decide +kernel) (by decide +kernel)
theorem q362 : Cond.code ⟨"HerdCords", "cordAt", "(I)LHerdCords$Cord;"⟩ prog_1_method_27_code 2 (some (.object "HerdCords$Cord")) ∈ zW := zw_mem 362 (by decide +kernel) (by decide +kernel)
theorem q363 : Cond.classLink "HerdCords" 281 "java/lang/IndexOutOfBoundsException" ∈ zW := zw_mem 363 (by decide +kernel) (by decide +kernel)
theorem q364 : Cond.instantiable "java/lang/IndexOutOfBoundsException" 6 ∈ zW := zw_mem 364 (by decide +kernel) (by decide +kernel)
theorem q373 : Cond.methodLink "HerdCords" 285 ⟨"java/lang/IndexOutOfBoundsException", "<init>", "(Ljava/lang/String;)V"⟩ ∈ zW := zw_mem 373 (by decide +kernel) (by decide +kernel)
theorem q374 : Cond.instanceMethod ⟨"java/lang/IndexOutOfBoundsException", "<init>", "(Ljava/lang/String;)V"⟩ ∈ zW := zw_mem 374 (by decide +kernel) (by decide +kernel)
theorem q375 : Cond.code ⟨"java/lang/IndexOutOfBoundsException", "<init>", "(Ljava/lang/String;)V"⟩ prog_11_method_2_code 2 none ∈ zW := zw_mem 375 (by decide +kernel) (by decide +kernel)
theorem q379 : Cond.methodLink "HerdCords" 150 ⟨"HerdCords$Cord", "told", "()I"⟩ ∈ zW := zw_mem 379 (by decide +kernel) (by decide +kernel)
theorem q380 : Cond.methodLink "HerdCords" 152 ⟨"HerdCords$Cord", "partsTogether", "()I"⟩ ∈ zW := zw_mem 380 (by decide +kernel) (by decide +kernel)
theorem q381 : Cond.methodLink "HerdCords" 158 ⟨"HerdCords$Cord", "lack", "()I"⟩ ∈ zW := zw_mem 381 (by decide +kernel) (by decide +kernel)
theorem q382 : Cond.methodLink "HerdCords" 161 ⟨"HerdCords$Cord", "ties", "()I"⟩ ∈ zW := zw_mem 382 (by decide +kernel) (by decide +kernel)
theorem q383 : Cond.instanceMethod ⟨"HerdCords$Cord", "ties", "()I"⟩ ∈ zW := zw_mem 383 (by decide +kernel) (by decide +kernel)
theorem q384 : Cond.selects "HerdCords$Cord" ⟨"HerdCords$Cord", "ties", "()I"⟩ ⟨"HerdCords$Cord", "ties", "()I"⟩ ∈ zW := zw_mem 384 (by decide +kernel) (by decide +kernel)
theorem q385 : Cond.code ⟨"HerdCords$Cord", "ties", "()I"⟩ prog_2_method_11_code 1 (some .int) ∈ zW := zw_mem 385 (by decide +kernel) (by decide +kernel)
theorem q386 : Cond.methodLink "HerdCords$Cord" 52 ⟨"HerdCords$Cord", "allKnots", "()I"⟩ ∈ zW := zw_mem 386 (by decide +kernel) (by decide +kernel)
theorem q387 : Cond.methodLink "HerdCords$Cord" 55 ⟨"HerdCords$Cord", "allLoops", "()I"⟩ ∈ zW := zw_mem 387 (by decide +kernel) (by decide +kernel)
theorem q388 : Cond.methodLink "HerdCords" 162 ⟨"HerdCords$Cord", "allLoops", "()I"⟩ ∈ zW := zw_mem 388 (by decide +kernel) (by decide +kernel)
theorem q390 : Cond.methodLink "HerdCordsLaw" 24 ⟨"HerdCordsLaw", "number", "(I)I"⟩ ∈ zW := zw_mem 390 (by decide +kernel) (by decide +kernel)
theorem q391 : Cond.static ⟨"HerdCordsLaw", "number", "(I)I"⟩ ∈ zW := zw_mem 391 (by decide +kernel) (by decide +kernel)
theorem q393 : Cond.methodLink "HerdCordsLaw" 27 ⟨"HerdCordsLaw", "ties", "(LHerdCords;II)Z"⟩ ∈ zW := zw_mem 393 (by decide +kernel) (by decide +kernel)
theorem q394 : Cond.static ⟨"HerdCordsLaw", "ties", "(LHerdCords;II)Z"⟩ ∈ zW := zw_mem 394 (by decide +kernel) (by decide +kernel)
theorem q396 : Cond.methodLink "HerdCordsLaw" 31 ⟨"HerdCords", "whyNot", "(II)I"⟩ ∈ zW := zw_mem 396 (by decide +kernel) (by decide +kernel)
theorem q397 : Cond.instanceMethod ⟨"HerdCords", "whyNot", "(II)I"⟩ ∈ zW := zw_mem 397 (by decide +kernel) (by decide +kernel)
theorem q398 : Cond.selects "HerdCords" ⟨"HerdCords", "whyNot", "(II)I"⟩ ⟨"HerdCords", "whyNot", "(II)I"⟩ ∈ zW := zw_mem 398 (by decide +kernel) (by decide +kernel)
theorem q399 : Cond.code ⟨"HerdCords", "whyNot", "(II)I"⟩ prog_1_method_21_code 4 (some .int) ∈ zW := zw_mem 399 (by decide +kernel) (by decide +kernel)
theorem q400 : Cond.methodLink "HerdCords" 57 ⟨"HerdCords", "checkNumber", "(I)V"⟩ ∈ zW := zw_mem 400 (by decide +kernel) (by decide +kernel)
theorem q401 : Cond.static ⟨"HerdCords", "checkNumber", "(I)V"⟩ ∈ zW := zw_mem 401 (by decide +kernel) (by decide +kernel)
theorem q402 : Cond.code ⟨"HerdCords", "checkNumber", "(I)V"⟩ prog_1_method_29_code 1 none ∈ zW := zw_mem 402 (by decide +kernel) (by decide +kernel)
theorem q403 : Cond.constant "HerdCords" 292 (999999) ∈ zW := zw_mem 403 (by decide +kernel) (by decide +kernel)
theorem q405 : Cond.methodLink "HerdCords" 218 ⟨"HerdCords$Cord", "refusalOfPart", "(II)I"⟩ ∈ zW := zw_mem 405 (by decide +kernel) (by decide +kernel)
theorem q406 : Cond.instanceMethod ⟨"HerdCords$Cord", "refusalOfPart", "(II)I"⟩ ∈ zW := zw_mem 406 (by decide +kernel) (by decide +kernel)
theorem q407 : Cond.selects "HerdCords$Cord" ⟨"HerdCords$Cord", "refusalOfPart", "(II)I"⟩ ⟨"HerdCords$Cord", "refusalOfPart", "(II)I"⟩ ∈ zW := zw_mem 407 (by decide +kernel) (by decide +kernel)
theorem q408 : Cond.code ⟨"HerdCords$Cord", "refusalOfPart", "(II)I"⟩ prog_2_method_13_code 3 (some .int) ∈ zW := zw_mem 408 (by decide +kernel) (by decide +kernel)
theorem q409 : Cond.methodLink "HerdCords$Cord" 66 ⟨"HerdCords$Cord", "refusal", "(II)I"⟩ ∈ zW := zw_mem 409 (by decide +kernel) (by decide +kernel)
theorem q410 : Cond.instanceMethod ⟨"HerdCords$Cord", "refusal", "(II)I"⟩ ∈ zW := zw_mem 410 (by decide +kernel) (by decide +kernel)
theorem q411 : Cond.selects "HerdCords$Cord" ⟨"HerdCords$Cord", "refusal", "(II)I"⟩ ⟨"HerdCords$Cord", "refusal", "(II)I"⟩ ∈ zW := zw_mem 411 (by decide +kernel) (by decide +kernel)
theorem q412 : Cond.code ⟨"HerdCords$Cord", "refusal", "(II)I"⟩ prog_2_method_12_code 9 (some .int) ∈ zW := zw_mem 412 (by decide +kernel) (by decide +kernel)
theorem q413 : Cond.constant "HerdCords$Cord" 58 (999999) ∈ zW := zw_mem 413 (by decide +kernel) (by decide +kernel)
theorem q414 : Cond.methodLink "HerdCords$Cord" 59 ⟨"HerdCords$Cord", "loopsFor", "(II)I"⟩ ∈ zW := zw_mem 414 (by decide +kernel) (by decide +kernel)
theorem q416 : Cond.instanceMethod ⟨"HerdCords$Cord", "loopsFor", "(II)I"⟩ ∈ zW := zw_mem 416 (by decide +kernel) (by decide +kernel)
theorem q417 : Cond.code ⟨"HerdCords$Cord", "loopsFor", "(II)I"⟩ prog_2_method_16_code 3 (some .int) ∈ zW := zw_mem 417 (by decide +kernel) (by decide +kernel)
theorem q418 : Cond.methodLink "HerdCords$Cord" 63 ⟨"HerdCords$Cord", "tiesAt", "(I)I"⟩ ∈ zW := zw_mem 418 (by decide +kernel) (by decide +kernel)
theorem q419 : Cond.instanceMethod ⟨"HerdCords$Cord", "tiesAt", "(I)I"⟩ ∈ zW := zw_mem 419 (by decide +kernel) (by decide +kernel)
theorem q420 : Cond.selects "HerdCords$Cord" ⟨"HerdCords$Cord", "tiesAt", "(I)I"⟩ ⟨"HerdCords$Cord", "tiesAt", "(I)I"⟩ ∈ zW := zw_mem 420 (by decide +kernel) (by decide +kernel)
theorem q421 : Cond.code ⟨"HerdCords$Cord", "tiesAt", "(I)I"⟩ prog_2_method_5_code 2 (some .int) ∈ zW := zw_mem 421 (by decide +kernel) (by decide +kernel)
theorem q422 : Cond.methodLink "HerdCordsLaw" 56 ⟨"HerdCords", "howOften", "(II)I"⟩ ∈ zW := zw_mem 422 (by decide +kernel) (by decide +kernel)
theorem q423 : Cond.instanceMethod ⟨"HerdCords", "howOften", "(II)I"⟩ ∈ zW := zw_mem 423 (by decide +kernel) (by decide +kernel)
theorem q424 : Cond.selects "HerdCords" ⟨"HerdCords", "howOften", "(II)I"⟩ ⟨"HerdCords", "howOften", "(II)I"⟩ ∈ zW := zw_mem 424 (by decide +kernel) (by decide +kernel)
theorem q425 : Cond.code ⟨"HerdCords", "howOften", "(II)I"⟩ prog_1_method_22_code 5 (some .int) ∈ zW := zw_mem 425 (by decide +kernel) (by decide +kernel)
theorem q426 : Cond.methodLink "HerdCords" 221 ⟨"HerdCords$Cord", "copyFrom", "(LHerdCords$Cord;)V"⟩ ∈ zW := zw_mem 426 (by decide +kernel) (by decide +kernel)
theorem q427 : Cond.methodLink "HerdCords" 224 ⟨"HerdCords$Cord", "tieAsPart", "(I)V"⟩ ∈ zW := zw_mem 427 (by decide +kernel) (by decide +kernel)
theorem q428 : Cond.instanceMethod ⟨"HerdCords$Cord", "tieAsPart", "(I)V"⟩ ∈ zW := zw_mem 428 (by decide +kernel) (by decide +kernel)
theorem q429 : Cond.selects "HerdCords$Cord" ⟨"HerdCords$Cord", "tieAsPart", "(I)V"⟩ ⟨"HerdCords$Cord", "tieAsPart", "(I)V"⟩ ∈ zW := zw_mem 429 (by decide +kernel) (by decide +kernel)
theorem q430 : Cond.code ⟨"HerdCords$Cord", "tieAsPart", "(I)V"⟩ prog_2_method_15_code 2 none ∈ zW := zw_mem 430 (by decide +kernel) (by decide +kernel)
theorem q431 : Cond.methodLink "HerdCords$Cord" 69 ⟨"HerdCords$Cord", "tieKnots", "(I)V"⟩ ∈ zW := zw_mem 431 (by decide +kernel) (by decide +kernel)
theorem q432 : Cond.instanceMethod ⟨"HerdCords$Cord", "tieKnots", "(I)V"⟩ ∈ zW := zw_mem 432 (by decide +kernel) (by decide +kernel)
theorem q433 : Cond.selects "HerdCords$Cord" ⟨"HerdCords$Cord", "tieKnots", "(I)V"⟩ ⟨"HerdCords$Cord", "tieKnots", "(I)V"⟩ ∈ zW := zw_mem 433 (by decide +kernel) (by decide +kernel)
theorem q434 : Cond.code ⟨"HerdCords$Cord", "tieKnots", "(I)V"⟩ prog_2_method_14_code 7 none ∈ zW := zw_mem 434 (by decide +kernel) (by decide +kernel)
theorem q435 : Cond.constant "HerdCordsLaw" 59 (999999) ∈ zW := zw_mem 435 (by decide +kernel) (by decide +kernel)
theorem q436 : Cond.methodLink "HerdCordsLaw" 60 ⟨"HerdCords", "tie", "(II)I"⟩ ∈ zW := zw_mem 436 (by decide +kernel) (by decide +kernel)
theorem q437 : Cond.instanceMethod ⟨"HerdCords", "tie", "(II)I"⟩ ∈ zW := zw_mem 437 (by decide +kernel) (by decide +kernel)
theorem q438 : Cond.selects "HerdCords" ⟨"HerdCords", "tie", "(II)I"⟩ ⟨"HerdCords", "tie", "(II)I"⟩ ∈ zW := zw_mem 438 (by decide +kernel) (by decide +kernel)
theorem q439 : Cond.code ⟨"HerdCords", "tie", "(II)I"⟩ prog_1_method_2_code 4 (some .int) ∈ zW := zw_mem 439 (by decide +kernel) (by decide +kernel)
theorem q440 : Cond.methodLink "HerdCords" 65 ⟨"HerdCords$Herd", "tiePart", "(LHerdCords$Cord;I)I"⟩ ∈ zW := zw_mem 440 (by decide +kernel) (by decide +kernel)
theorem q441 : Cond.instanceMethod ⟨"HerdCords$Herd", "tiePart", "(LHerdCords$Cord;I)I"⟩ ∈ zW := zw_mem 441 (by decide +kernel) (by decide +kernel)
theorem q442 : Cond.selects "HerdCords$Herd" ⟨"HerdCords$Herd", "tiePart", "(LHerdCords$Cord;I)I"⟩ ⟨"HerdCords$Herd", "tiePart", "(LHerdCords$Cord;I)I"⟩ ∈ zW := zw_mem 442 (by decide +kernel) (by decide +kernel)
theorem q443 : Cond.code ⟨"HerdCords$Herd", "tiePart", "(LHerdCords$Cord;I)I"⟩ prog_3_method_3_code 6 (some .int) ∈ zW := zw_mem 443 (by decide +kernel) (by decide +kernel)
theorem q444 : Cond.methodLink "HerdCords$Herd" 41 ⟨"HerdCords$Cord", "refusalOfPart", "(II)I"⟩ ∈ zW := zw_mem 444 (by decide +kernel) (by decide +kernel)
theorem q445 : Cond.methodLink "HerdCords$Herd" 52 ⟨"HerdCords$Cord", "tieAsPart", "(I)V"⟩ ∈ zW := zw_mem 445 (by decide +kernel) (by decide +kernel)
theorem q446 : Cond.methodLink "HerdCords$Herd" 56 ⟨"HerdCords$Herd", "countTied", "(LHerdCords$Cord;II)I"⟩ ∈ zW := zw_mem 446 (by decide +kernel) (by decide +kernel)
theorem q448 : Cond.instanceMethod ⟨"HerdCords$Herd", "countTied", "(LHerdCords$Cord;II)I"⟩ ∈ zW := zw_mem 448 (by decide +kernel) (by decide +kernel)
theorem q449 : Cond.code ⟨"HerdCords$Herd", "countTied", "(LHerdCords$Cord;II)I"⟩ prog_3_method_6_code 5 (some .int) ∈ zW := zw_mem 449 (by decide +kernel) (by decide +kernel)
theorem q450 : Cond.methodLink "HerdCordsLaw" 63 ⟨"HerdCords", "part", "(II)I"⟩ ∈ zW := zw_mem 450 (by decide +kernel) (by decide +kernel)
theorem q451 : Cond.instanceMethod ⟨"HerdCords", "part", "(II)I"⟩ ∈ zW := zw_mem 451 (by decide +kernel) (by decide +kernel)
theorem q452 : Cond.selects "HerdCords" ⟨"HerdCords", "part", "(II)I"⟩ ⟨"HerdCords", "part", "(II)I"⟩ ∈ zW := zw_mem 452 (by decide +kernel) (by decide +kernel)
theorem q453 : Cond.code ⟨"HerdCords", "part", "(II)I"⟩ prog_1_method_18_code 4 (some .int) ∈ zW := zw_mem 453 (by decide +kernel) (by decide +kernel)
theorem q455 : Cond.methodLink "HerdCordsLaw" 34 ⟨"HerdCords", "add", "(II)I"⟩ ∈ zW := zw_mem 455 (by decide +kernel) (by decide +kernel)
theorem q456 : Cond.instanceMethod ⟨"HerdCords", "add", "(II)I"⟩ ∈ zW := zw_mem 456 (by decide +kernel) (by decide +kernel)
theorem q457 : Cond.selects "HerdCords" ⟨"HerdCords", "add", "(II)I"⟩ ⟨"HerdCords", "add", "(II)I"⟩ ∈ zW := zw_mem 457 (by decide +kernel) (by decide +kernel)
theorem q458 : Cond.code ⟨"HerdCords", "add", "(II)I"⟩ prog_1_method_3_code 5 (some .int) ∈ zW := zw_mem 458 (by decide +kernel) (by decide +kernel)
theorem q460 : Cond.methodLink "HerdCords" 76 ⟨"HerdCords$Herd", "tieCord", "(LHerdCords$Cord;LHerdCords$Cord;)I"⟩ ∈ zW := zw_mem 460 (by decide +kernel) (by decide +kernel)
theorem q461 : Cond.instanceMethod ⟨"HerdCords$Herd", "tieCord", "(LHerdCords$Cord;LHerdCords$Cord;)I"⟩ ∈ zW := zw_mem 461 (by decide +kernel) (by decide +kernel)
theorem q462 : Cond.selects "HerdCords$Herd" ⟨"HerdCords$Herd", "tieCord", "(LHerdCords$Cord;LHerdCords$Cord;)I"⟩ ⟨"HerdCords$Herd", "tieCord", "(LHerdCords$Cord;LHerdCords$Cord;)I"⟩ ∈ zW := zw_mem 462 (by decide +kernel) (by decide +kernel)
theorem q463 : Cond.code ⟨"HerdCords$Herd", "tieCord", "(LHerdCords$Cord;LHerdCords$Cord;)I"⟩ prog_3_method_4_code 4 (some .int) ∈ zW := zw_mem 463 (by decide +kernel) (by decide +kernel)
theorem q464 : Cond.methodLink "HerdCords$Herd" 63 ⟨"HerdCords$Herd", "tiePart", "(LHerdCords$Cord;I)I"⟩ ∈ zW := zw_mem 464 (by decide +kernel) (by decide +kernel)
theorem q465 : Cond.methodLink "HerdCordsLaw" 37 ⟨"HerdCords", "placeOf", "(III)I"⟩ ∈ zW := zw_mem 465 (by decide +kernel) (by decide +kernel)
theorem q466 : Cond.instanceMethod ⟨"HerdCords", "placeOf", "(III)I"⟩ ∈ zW := zw_mem 466 (by decide +kernel) (by decide +kernel)
theorem q467 : Cond.selects "HerdCords" ⟨"HerdCords", "placeOf", "(III)I"⟩ ⟨"HerdCords", "placeOf", "(III)I"⟩ ∈ zW := zw_mem 467 (by decide +kernel) (by decide +kernel)
theorem q468 : Cond.code ⟨"HerdCords", "placeOf", "(III)I"⟩ prog_1_method_17_code 5 (some .int) ∈ zW := zw_mem 468 (by decide +kernel) (by decide +kernel)
theorem q469 : Cond.methodLink "HerdCords" 80 ⟨"HerdCords", "checkPlace", "(I)V"⟩ ∈ zW := zw_mem 469 (by decide +kernel) (by decide +kernel)
theorem q470 : Cond.static ⟨"HerdCords", "checkPlace", "(I)V"⟩ ∈ zW := zw_mem 470 (by decide +kernel) (by decide +kernel)
theorem q471 : Cond.code ⟨"HerdCords", "checkPlace", "(I)V"⟩ prog_1_method_28_code 1 none ∈ zW := zw_mem 471 (by decide +kernel) (by decide +kernel)
theorem q473 : Cond.methodLink "HerdCords" 176 ⟨"HerdCords$Cord", "open", "(I)I"⟩ ∈ zW := zw_mem 473 (by decide +kernel) (by decide +kernel)
theorem q474 : Cond.methodLink "HerdCords" 180 ⟨"HerdCords$Cord", "tiesAt", "(I)I"⟩ ∈ zW := zw_mem 474 (by decide +kernel) (by decide +kernel)
theorem q475 : Cond.methodLink "HerdCords" 183 ⟨"java/lang/Math", "max", "(II)I"⟩ ∈ zW := zw_mem 475 (by decide +kernel) (by decide +kernel)
theorem q476 : Cond.static ⟨"java/lang/Math", "max", "(II)I"⟩ ∈ zW := zw_mem 476 (by decide +kernel) (by decide +kernel)
theorem q477 : Cond.code ⟨"java/lang/Math", "max", "(II)I"⟩ prog_13_method_65_code 2 (some .int) ∈ zW := zw_mem 477 (by decide +kernel) (by decide +kernel)
theorem q479 : Cond.methodLink "HerdCordsLaw" 41 ⟨"HerdCords", "slip", "(II)I"⟩ ∈ zW := zw_mem 479 (by decide +kernel) (by decide +kernel)
theorem q480 : Cond.instanceMethod ⟨"HerdCords", "slip", "(II)I"⟩ ∈ zW := zw_mem 480 (by decide +kernel) (by decide +kernel)
theorem q481 : Cond.selects "HerdCords" ⟨"HerdCords", "slip", "(II)I"⟩ ⟨"HerdCords", "slip", "(II)I"⟩ ∈ zW := zw_mem 481 (by decide +kernel) (by decide +kernel)
theorem q482 : Cond.code ⟨"HerdCords", "slip", "(II)I"⟩ prog_1_method_4_code 4 (some .int) ∈ zW := zw_mem 482 (by decide +kernel) (by decide +kernel)
theorem q483 : Cond.methodLink "HerdCords" 83 ⟨"HerdCords$Herd", "loosen", "(LHerdCords$Cord;I)I"⟩ ∈ zW := zw_mem 483 (by decide +kernel) (by decide +kernel)
theorem q484 : Cond.instanceMethod ⟨"HerdCords$Herd", "loosen", "(LHerdCords$Cord;I)I"⟩ ∈ zW := zw_mem 484 (by decide +kernel) (by decide +kernel)
theorem q485 : Cond.selects "HerdCords$Herd" ⟨"HerdCords$Herd", "loosen", "(LHerdCords$Cord;I)I"⟩ ⟨"HerdCords$Herd", "loosen", "(LHerdCords$Cord;I)I"⟩ ∈ zW := zw_mem 485 (by decide +kernel) (by decide +kernel)
theorem q486 : Cond.code ⟨"HerdCords$Herd", "loosen", "(LHerdCords$Cord;I)I"⟩ prog_3_method_7_code 3 (some .int) ∈ zW := zw_mem 486 (by decide +kernel) (by decide +kernel)
theorem q487 : Cond.methodLink "HerdCords$Herd" 76 ⟨"HerdCords$Cord", "open", "(I)I"⟩ ∈ zW := zw_mem 487 (by decide +kernel) (by decide +kernel)
theorem q488 : Cond.methodLink "HerdCordsLaw" 44 ⟨"HerdCords", "mend", "(I)I"⟩ ∈ zW := zw_mem 488 (by decide +kernel) (by decide +kernel)
theorem q489 : Cond.instanceMethod ⟨"HerdCords", "mend", "(I)I"⟩ ∈ zW := zw_mem 489 (by decide +kernel) (by decide +kernel)
theorem q490 : Cond.selects "HerdCords" ⟨"HerdCords", "mend", "(I)I"⟩ ⟨"HerdCords", "mend", "(I)I"⟩ ∈ zW := zw_mem 490 (by decide +kernel) (by decide +kernel)
theorem q491 : Cond.code ⟨"HerdCords", "mend", "(I)I"⟩ prog_1_method_5_code 3 (some .int) ∈ zW := zw_mem 491 (by decide +kernel) (by decide +kernel)
theorem q492 : Cond.methodLink "HerdCords" 86 ⟨"HerdCords$Herd", "tieLack", "(LHerdCords$Cord;)I"⟩ ∈ zW := zw_mem 492 (by decide +kernel) (by decide +kernel)
theorem q493 : Cond.instanceMethod ⟨"HerdCords$Herd", "tieLack", "(LHerdCords$Cord;)I"⟩ ∈ zW := zw_mem 493 (by decide +kernel) (by decide +kernel)
theorem q494 : Cond.selects "HerdCords$Herd" ⟨"HerdCords$Herd", "tieLack", "(LHerdCords$Cord;)I"⟩ ⟨"HerdCords$Herd", "tieLack", "(LHerdCords$Cord;)I"⟩ ∈ zW := zw_mem 494 (by decide +kernel) (by decide +kernel)
theorem q495 : Cond.code ⟨"HerdCords$Herd", "tieLack", "(LHerdCords$Cord;)I"⟩ prog_3_method_5_code 6 (some .int) ∈ zW := zw_mem 495 (by decide +kernel) (by decide +kernel)
theorem q496 : Cond.methodLink "HerdCords$Herd" 70 ⟨"HerdCords$Cord", "refusal", "(II)I"⟩ ∈ zW := zw_mem 496 (by decide +kernel) (by decide +kernel)
theorem q497 : Cond.methodLink "HerdCords$Herd" 73 ⟨"HerdCords$Cord", "tieKnots", "(I)V"⟩ ∈ zW := zw_mem 497 (by decide +kernel) (by decide +kernel)
theorem q498 : Cond.methodLink "HerdCordsLaw" 47 ⟨"HerdCords", "renew", "(I)I"⟩ ∈ zW := zw_mem 498 (by decide +kernel) (by decide +kernel)
theorem q499 : Cond.instanceMethod ⟨"HerdCords", "renew", "(I)I"⟩ ∈ zW := zw_mem 499 (by decide +kernel) (by decide +kernel)
theorem q500 : Cond.selects "HerdCords" ⟨"HerdCords", "renew", "(I)I"⟩ ⟨"HerdCords", "renew", "(I)I"⟩ ∈ zW := zw_mem 500 (by decide +kernel) (by decide +kernel)
theorem q501 : Cond.code ⟨"HerdCords", "renew", "(I)I"⟩ prog_1_method_6_code 3 (some .int) ∈ zW := zw_mem 501 (by decide +kernel) (by decide +kernel)
theorem q502 : Cond.methodLink "HerdCords" 90 ⟨"HerdCords$Herd", "replace", "(LHerdCords$Cord;)I"⟩ ∈ zW := zw_mem 502 (by decide +kernel) (by decide +kernel)
theorem q503 : Cond.instanceMethod ⟨"HerdCords$Herd", "replace", "(LHerdCords$Cord;)I"⟩ ∈ zW := zw_mem 503 (by decide +kernel) (by decide +kernel)
theorem q504 : Cond.selects "HerdCords$Herd" ⟨"HerdCords$Herd", "replace", "(LHerdCords$Cord;)I"⟩ ⟨"HerdCords$Herd", "replace", "(LHerdCords$Cord;)I"⟩ ∈ zW := zw_mem 504 (by decide +kernel) (by decide +kernel)
theorem q505 : Cond.code ⟨"HerdCords$Herd", "replace", "(LHerdCords$Cord;)I"⟩ prog_3_method_8_code 3 (some .int) ∈ zW := zw_mem 505 (by decide +kernel) (by decide +kernel)
theorem q506 : Cond.methodLink "HerdCords$Herd" 85 ⟨"HerdCords$Cord", "ties", "()I"⟩ ∈ zW := zw_mem 506 (by decide +kernel) (by decide +kernel)
theorem q507 : Cond.methodLink "HerdCords$Herd" 88 ⟨"HerdCords$Cord", "becomeNew", "()V"⟩ ∈ zW := zw_mem 507 (by decide +kernel) (by decide +kernel)
theorem q508 : Cond.instanceMethod ⟨"HerdCords$Cord", "becomeNew", "()V"⟩ ∈ zW := zw_mem 508 (by decide +kernel) (by decide +kernel)
theorem q509 : Cond.selects "HerdCords$Cord" ⟨"HerdCords$Cord", "becomeNew", "()V"⟩ ⟨"HerdCords$Cord", "becomeNew", "()V"⟩ ∈ zW := zw_mem 509 (by decide +kernel) (by decide +kernel)
theorem q510 : Cond.code ⟨"HerdCords$Cord", "becomeNew", "()V"⟩ prog_2_method_3_code 2 none ∈ zW := zw_mem 510 (by decide +kernel) (by decide +kernel)
theorem q511 : Cond.methodLink "HerdCordsLaw" 50 ⟨"HerdCords", "dye", "(II)I"⟩ ∈ zW := zw_mem 511 (by decide +kernel) (by decide +kernel)
theorem q512 : Cond.instanceMethod ⟨"HerdCords", "dye", "(II)I"⟩ ∈ zW := zw_mem 512 (by decide +kernel) (by decide +kernel)
theorem q513 : Cond.selects "HerdCords" ⟨"HerdCords", "dye", "(II)I"⟩ ⟨"HerdCords", "dye", "(II)I"⟩ ∈ zW := zw_mem 513 (by decide +kernel) (by decide +kernel)
theorem q514 : Cond.code ⟨"HerdCords", "dye", "(II)I"⟩ prog_1_method_7_code 5 (some .int) ∈ zW := zw_mem 514 (by decide +kernel) (by decide +kernel)
theorem q515 : Cond.methodLink "HerdCords" 93 ⟨"HerdCords", "checkHue", "(I)V"⟩ ∈ zW := zw_mem 515 (by decide +kernel) (by decide +kernel)
theorem q516 : Cond.static ⟨"HerdCords", "checkHue", "(I)V"⟩ ∈ zW := zw_mem 516 (by decide +kernel) (by decide +kernel)
theorem q517 : Cond.code ⟨"HerdCords", "checkHue", "(I)V"⟩ prog_1_method_30_code 1 none ∈ zW := zw_mem 517 (by decide +kernel) (by decide +kernel)
theorem q519 : Cond.methodLink "HerdCordsLaw" 53 ⟨"HerdCords", "set", "(I)I"⟩ ∈ zW := zw_mem 519 (by decide +kernel) (by decide +kernel)
theorem q520 : Cond.instanceMethod ⟨"HerdCords", "set", "(I)I"⟩ ∈ zW := zw_mem 520 (by decide +kernel) (by decide +kernel)
theorem q521 : Cond.selects "HerdCords" ⟨"HerdCords", "set", "(I)I"⟩ ⟨"HerdCords", "set", "(I)I"⟩ ∈ zW := zw_mem 521 (by decide +kernel) (by decide +kernel)
theorem q522 : Cond.code ⟨"HerdCords", "set", "(I)I"⟩ prog_1_method_8_code 3 (some .int) ∈ zW := zw_mem 522 (by decide +kernel) (by decide +kernel)
theorem q524 : Cond.methodLink "HerdCordsLaw" 88 ⟨"HerdCordsLaw", "holds", "(LHerdCords;I)Z"⟩ ∈ zW := zw_mem 524 (by decide +kernel) (by decide +kernel)
theorem q525 : Cond.static ⟨"HerdCordsLaw", "holds", "(LHerdCords;I)Z"⟩ ∈ zW := zw_mem 525 (by decide +kernel) (by decide +kernel)
theorem q527 : Cond.methodLink "HerdCordsLaw" 66 ⟨"HerdCordsLaw", "isCord", "(LHerdCords;I)Z"⟩ ∈ zW := zw_mem 527 (by decide +kernel) (by decide +kernel)
theorem q528 : Cond.static ⟨"HerdCordsLaw", "isCord", "(LHerdCords;I)Z"⟩ ∈ zW := zw_mem 528 (by decide +kernel) (by decide +kernel)
theorem q530 : Cond.methodLink "HerdCordsLaw" 70 ⟨"HerdCords", "byHue", "(I)I"⟩ ∈ zW := zw_mem 530 (by decide +kernel) (by decide +kernel)
theorem q531 : Cond.instanceMethod ⟨"HerdCords", "byHue", "(I)I"⟩ ∈ zW := zw_mem 531 (by decide +kernel) (by decide +kernel)
theorem q532 : Cond.selects "HerdCords" ⟨"HerdCords", "byHue", "(I)I"⟩ ⟨"HerdCords", "byHue", "(I)I"⟩ ∈ zW := zw_mem 532 (by decide +kernel) (by decide +kernel)
theorem q533 : Cond.code ⟨"HerdCords", "byHue", "(I)I"⟩ prog_1_method_20_code 2 (some .int) ∈ zW := zw_mem 533 (by decide +kernel) (by decide +kernel)
theorem q534 : Cond.methodLink "HerdCords" 215 ⟨"HerdCords$Herd", "toldInHue", "(I)I"⟩ ∈ zW := zw_mem 534 (by decide +kernel) (by decide +kernel)
theorem q535 : Cond.instanceMethod ⟨"HerdCords$Herd", "toldInHue", "(I)I"⟩ ∈ zW := zw_mem 535 (by decide +kernel) (by decide +kernel)
theorem q536 : Cond.selects "HerdCords$Herd" ⟨"HerdCords$Herd", "toldInHue", "(I)I"⟩ ⟨"HerdCords$Herd", "toldInHue", "(I)I"⟩ ∈ zW := zw_mem 536 (by decide +kernel) (by decide +kernel)
theorem q537 : Cond.code ⟨"HerdCords$Herd", "toldInHue", "(I)I"⟩ prog_3_method_11_code 7 (some .int) ∈ zW := zw_mem 537 (by decide +kernel) (by decide +kernel)
theorem q538 : Cond.methodLink "HerdCordsLaw" 73 ⟨"HerdCords", "fullest", "()I"⟩ ∈ zW := zw_mem 538 (by decide +kernel) (by decide +kernel)
theorem q539 : Cond.instanceMethod ⟨"HerdCords", "fullest", "()I"⟩ ∈ zW := zw_mem 539 (by decide +kernel) (by decide +kernel)
theorem q540 : Cond.selects "HerdCords" ⟨"HerdCords", "fullest", "()I"⟩ ⟨"HerdCords", "fullest", "()I"⟩ ∈ zW := zw_mem 540 (by decide +kernel) (by decide +kernel)
theorem q541 : Cond.code ⟨"HerdCords", "fullest", "()I"⟩ prog_1_method_24_code 1 (some .int) ∈ zW := zw_mem 541 (by decide +kernel) (by decide +kernel)
theorem q542 : Cond.methodLink "HerdCords" 244 ⟨"HerdCords$Herd", "fullestCord", "()I"⟩ ∈ zW := zw_mem 542 (by decide +kernel) (by decide +kernel)
theorem q543 : Cond.instanceMethod ⟨"HerdCords$Herd", "fullestCord", "()I"⟩ ∈ zW := zw_mem 543 (by decide +kernel) (by decide +kernel)
theorem q544 : Cond.selects "HerdCords$Herd" ⟨"HerdCords$Herd", "fullestCord", "()I"⟩ ⟨"HerdCords$Herd", "fullestCord", "()I"⟩ ∈ zW := zw_mem 544 (by decide +kernel) (by decide +kernel)
theorem q545 : Cond.code ⟨"HerdCords$Herd", "fullestCord", "()I"⟩ prog_3_method_16_code 3 (some .int) ∈ zW := zw_mem 545 (by decide +kernel) (by decide +kernel)
theorem q546 : Cond.methodLink "HerdCordsLaw" 77 ⟨"HerdCords", "closedShare", "()D"⟩ ∈ zW := zw_mem 546 (by decide +kernel) (by decide +kernel)
theorem q547 : Cond.instanceMethod ⟨"HerdCords", "closedShare", "()D"⟩ ∈ zW := zw_mem 547 (by decide +kernel) (by decide +kernel)
theorem q548 : Cond.selects "HerdCords" ⟨"HerdCords", "closedShare", "()D"⟩ ⟨"HerdCords", "closedShare", "()D"⟩ ∈ zW := zw_mem 548 (by decide +kernel) (by decide +kernel)
theorem q549 : Cond.code ⟨"HerdCords", "closedShare", "()D"⟩ prog_1_method_25_code 2 (some .double) ∈ zW := zw_mem 549 (by decide +kernel) (by decide +kernel)
theorem q550 : Cond.methodLink "HerdCords" 247 ⟨"HerdCords$Herd", "knots", "()I"⟩ ∈ zW := zw_mem 550 (by decide +kernel) (by decide +kernel)
theorem q551 : Cond.methodLink "HerdCords" 249 ⟨"HerdCords$Herd", "loops", "()I"⟩ ∈ zW := zw_mem 551 (by decide +kernel) (by decide +kernel)
theorem q552 : Cond.methodLink "HerdCordsLaw" 81 ⟨"HerdCordsLaw", "bits", "(I)I"⟩ ∈ zW := zw_mem 552 (by decide +kernel) (by decide +kernel)
theorem q553 : Cond.static ⟨"HerdCordsLaw", "bits", "(I)I"⟩ ∈ zW := zw_mem 553 (by decide +kernel) (by decide +kernel)
theorem q555 : Cond.methodLink "HerdCordsLaw" 84 ⟨"HerdCords", "cordsFor", "(II)I"⟩ ∈ zW := zw_mem 555 (by decide +kernel) (by decide +kernel)
theorem q556 : Cond.instanceMethod ⟨"HerdCords", "cordsFor", "(II)I"⟩ ∈ zW := zw_mem 556 (by decide +kernel) (by decide +kernel)
theorem q557 : Cond.selects "HerdCords" ⟨"HerdCords", "cordsFor", "(II)I"⟩ ⟨"HerdCords", "cordsFor", "(II)I"⟩ ∈ zW := zw_mem 557 (by decide +kernel) (by decide +kernel)
theorem q558 : Cond.code ⟨"HerdCords", "cordsFor", "(II)I"⟩ prog_1_method_23_code 3 (some .int) ∈ zW := zw_mem 558 (by decide +kernel) (by decide +kernel)
theorem q559 : Cond.constant "HerdCords" 227 (9999999) ∈ zW := zw_mem 559 (by decide +kernel) (by decide +kernel)
theorem q562 : Cond.methodLink "HerdCords" 232 ⟨"HerdCords$Herd", "tellEach", "([I)V"⟩ ∈ zW := zw_mem 562 (by decide +kernel) (by decide +kernel)
theorem q563 : Cond.instanceMethod ⟨"HerdCords$Herd", "tellEach", "([I)V"⟩ ∈ zW := zw_mem 563 (by decide +kernel) (by decide +kernel)
theorem q564 : Cond.selects "HerdCords$Herd" ⟨"HerdCords$Herd", "tellEach", "([I)V"⟩ ⟨"HerdCords$Herd", "tellEach", "([I)V"⟩ ∈ zW := zw_mem 564 (by decide +kernel) (by decide +kernel)
theorem q565 : Cond.code ⟨"HerdCords$Herd", "tellEach", "([I)V"⟩ prog_3_method_9_code 3 none ∈ zW := zw_mem 565 (by decide +kernel) (by decide +kernel)
theorem q566 : Cond.methodLink "HerdCords" 236 ⟨"HerdCords", "bestOfAllSets", "([II)I"⟩ ∈ zW := zw_mem 566 (by decide +kernel) (by decide +kernel)
theorem q567 : Cond.static ⟨"HerdCords", "bestOfAllSets", "([II)I"⟩ ∈ zW := zw_mem 567 (by decide +kernel) (by decide +kernel)
theorem q568 : Cond.code ⟨"HerdCords", "bestOfAllSets", "([II)I"⟩ prog_1_method_34_code 4 (some .int) ∈ zW := zw_mem 568 (by decide +kernel) (by decide +kernel)
theorem q569 : Cond.methodLink "HerdCords" 309 ⟨"HerdCords", "toldBySet", "([II)I"⟩ ∈ zW := zw_mem 569 (by decide +kernel) (by decide +kernel)
theorem q570 : Cond.static ⟨"HerdCords", "toldBySet", "([II)I"⟩ ∈ zW := zw_mem 570 (by decide +kernel) (by decide +kernel)
theorem q571 : Cond.code ⟨"HerdCords", "toldBySet", "([II)I"⟩ prog_1_method_35_code 4 (some .int) ∈ zW := zw_mem 571 (by decide +kernel) (by decide +kernel)
theorem q572 : Cond.methodLink "HerdCords" 312 ⟨"HerdCords", "better", "(II)I"⟩ ∈ zW := zw_mem 572 (by decide +kernel) (by decide +kernel)
theorem q573 : Cond.static ⟨"HerdCords", "better", "(II)I"⟩ ∈ zW := zw_mem 573 (by decide +kernel) (by decide +kernel)
theorem q574 : Cond.code ⟨"HerdCords", "better", "(II)I"⟩ prog_1_method_37_code 3 (some .int) ∈ zW := zw_mem 574 (by decide +kernel) (by decide +kernel)
theorem q575 : Cond.methodLink "HerdCords" 315 ⟨"java/lang/Integer", "bitCount", "(I)I"⟩ ∈ zW := zw_mem 575 (by decide +kernel) (by decide +kernel)
theorem q576 : Cond.static ⟨"java/lang/Integer", "bitCount", "(I)I"⟩ ∈ zW := zw_mem 576 (by decide +kernel) (by decide +kernel)
theorem q577 : Cond.code ⟨"java/lang/Integer", "bitCount", "(I)I"⟩ prog_12_method_49_code 1 (some .int) ∈ zW := zw_mem 577 (by decide +kernel) (by decide +kernel)
theorem q578 : Cond.constant "java/lang/Integer" 265 (1431655765) ∈ zW := zw_mem 578 (by decide +kernel) (by decide +kernel)
theorem q579 : Cond.constant "java/lang/Integer" 266 (858993459) ∈ zW := zw_mem 579 (by decide +kernel) (by decide +kernel)
theorem q580 : Cond.constant "java/lang/Integer" 267 (252645135) ∈ zW := zw_mem 580 (by decide +kernel) (by decide +kernel)
theorem q581 : Cond.methodLink "HerdCords" 320 ⟨"java/lang/Integer", "compare", "(II)I"⟩ ∈ zW := zw_mem 581 (by decide +kernel) (by decide +kernel)
theorem q582 : Cond.static ⟨"java/lang/Integer", "compare", "(II)I"⟩ ∈ zW := zw_mem 582 (by decide +kernel) (by decide +kernel)
theorem q583 : Cond.code ⟨"java/lang/Integer", "compare", "(II)I"⟩ prog_12_method_40_code 2 (some .int) ∈ zW := zw_mem 583 (by decide +kernel) (by decide +kernel)
theorem q584 : Cond.methodLink "HerdCords" 240 ⟨"HerdCords", "bestByTrying", "([IIIII)I"⟩ ∈ zW := zw_mem 584 (by decide +kernel) (by decide +kernel)
theorem q585 : Cond.static ⟨"HerdCords", "bestByTrying", "([IIIII)I"⟩ ∈ zW := zw_mem 585 (by decide +kernel) (by decide +kernel)
theorem q586 : Cond.code ⟨"HerdCords", "bestByTrying", "([IIIII)I"⟩ prog_1_method_36_code 6 (some .int) ∈ zW := zw_mem 586 (by decide +kernel) (by decide +kernel)
theorem ziX0 : ∀ w ∈ wsX00, w ∈ zW := fun w h => List.mem_filter.mpr ⟨(show ∀ w ∈ wsX00, w ∈ lw_tbl by decide +kernel) w h, List.all_eq_true.mp (show wsX00.all goodWord = true by decide +kernel) w h⟩
theorem ziX1 : ∀ w ∈ wsX10, w ∈ zW := fun w h => List.mem_filter.mpr ⟨(show ∀ w ∈ wsX10, w ∈ lw_tbl by decide +kernel) w h, List.all_eq_true.mp (show wsX10.all goodWord = true by decide +kernel) w h⟩
theorem ziX2 : ∀ w ∈ wsX20, w ∈ zW := fun w h => List.mem_filter.mpr ⟨(show ∀ w ∈ wsX20, w ∈ lw_tbl by decide +kernel) w h, List.all_eq_true.mp (show wsX20.all goodWord = true by decide +kernel) w h⟩
theorem ziX3 : ∀ w ∈ wsX30, w ∈ zW := fun w h => List.mem_filter.mpr ⟨(show ∀ w ∈ wsX30, w ∈ lw_tbl by decide +kernel) w h, List.all_eq_true.mp (show wsX30.all goodWord = true by decide +kernel) w h⟩
theorem ziX4 : ∀ w ∈ wsX40, w ∈ zW := fun w h => List.mem_filter.mpr ⟨(show ∀ w ∈ wsX40, w ∈ lw_tbl by decide +kernel) w h, List.all_eq_true.mp (show wsX40.all goodWord = true by decide +kernel) w h⟩
