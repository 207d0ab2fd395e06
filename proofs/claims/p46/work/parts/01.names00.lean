theorem goodIn_app {big a b : List Cond} (ha : GoodIn big a) (hb : GoodIn big b) : GoodIn big (a ++ b) := fun w h => (List.mem_append.mp h).elim (ha w) (hb w)
section VXA
noncomputable def vx_T (XC : String → State → State → Prop) (st : State) (q : Addr) (t : State) (mc ms : Nat) (free : Addr → Prop) : Prop :=
  ∃ (E : String) (ce : Cell) (L : List Loc), XC E st t ∧ t.heap[q]? = some ce ∧ ce.vm = .none ∧ st.vm.findClass E = some ce.cls ∧ st.WarmedH t.vm ∧ st.sameButNew ({ t with vm := st.vm } : State) L mc ms ∧ ∀ z ∈ L, free z.base
noncomputable def vx_Q (Qc : Array Value → State → Outcome → State → Prop) (XC : String → State → State → Prop) (mc ms : Nat) (free : Addr → Prop) : Array Value → State → Outcome → State → Prop := fun a st o t =>
  (Qc a st o t ∧ ∃ L, FrameEnd st o t L mc ms ∧ ∀ q ∈ L, free q.base) ∨ ∃ q, o = .threw q ∧ vx_T XC st q t mc ms free
noncomputable def vx_Met (l : Launch) (y : MethodName) (ws : List Cond) (rm : Room) (Pc : Array Value → State → Prop) (Qc : Array Value → State → Outcome → State → Prop) (XC : String → State → State → Prop) (mc ms : Nat) (free : Addr → Prop) : Prop :=
  MetFree l y (headSpec ws rm) Pc (fun _ _ _ _ _ => True) (vx_Q Qc XC mc ms free)
noncomputable def vx_Post (XC : String → State → State → Prop) (mc ms : Nat) (free : Addr → Prop) : Pt → Array Value → Addr → Pt → Prop := fun A a q B =>
  ∃ (g : JFrame) (mk : MethodId) (t : State) (L : List Loc) (E : String) (ce : Cell), B.U.heap = t.heap ∧ B.U.vm = t.vm ∧ XC E (A.U.calling g mk a) t ∧ t.heap[q]? = some ce ∧ ce.vm = .none ∧ A.U.vm.findClass E = some ce.cls ∧ B.locs = A.locs ++ L ∧ (∀ z ∈ L, free z.base) ∧ B.cells = A.cells + mc ∧ B.slots = A.slots + ms
noncomputable def vx_Back (l : Launch) (R : Room) (p : Program) (e : Env) (below : List Frame) (s : State) (sargs : Array Value) (y : MethodName) (len W9 : Nat)
    (Pre : Pt → Array Value → Prop) (Post : Pt → Array Value → Option Value → Pt → Prop) (PostX : Pt → Array Value → Addr → Pt → Prop) : Prop :=
  ∀ (m : MethodId) (meth : Method) (c : Code) (A : Pt) (g : JFrame) (ig : Instr) (mk : MethodId) (a : Array Value),
    Stand p l e R s m sargs below meth c A.U A.locs A.cells A.slots → g.method = m → g.locals.size = c.maxLocals → decode c.code g.pc = .ok (ig, len) →
    2 * g.monitorRoom + (g.stack.map fun v => v.category).sum ≤ W9 → A.U.methodNamed? y = some mk → Pre A a →
    (∃ (v : Option Value) (B : Pt), Stand p l e R s m sargs below meth c B.U B.locs B.cells B.slots ∧ Post A a v B ∧
      Steps p.tables e below (doInvoke e (A.U.setTop g) [] mk a).1 (B.U.setTop { g with pc := g.pc + len, stack := v.toList ++ g.stack })) ∨
    (∃ (q : Addr) (B : Pt), Stand p l e R s m sargs below meth c B.U B.locs B.cells B.slots ∧ PostX A a q B ∧
      Steps p.tables e below (doInvoke e (A.U.setTop g) [] mk a).1 ((B.U.setTop g).pushFrame (.throwing q)))
section Payer
variable {l : Launch} {R : Room} {p : Program} {e : Env} {below : List Frame} {s : State} {sargs : Array Value} {y : MethodName} {len W9 : Nat}
theorem vx_back {ws : List Cond} {rm : Room} {Pc : Array Value → State → Prop} {Qc : Array Value → State → Outcome → State → Prop} {XC : String → State → State → Prop} {mc ms : Nat} {free : Addr → Prop} {bytes : ByteArray} {maxL : Nat} {ret : Option FieldType}
    (hM : vx_Met l y ws rm Pc Qc XC mc ms free) (hblind : FrameBlind Pc) (hrc : rm.cells = mc) (hrs : rm.slots = ms)
    (hframes : rm.frames + 1 ≤ R.frames) (hlocals : W9 + (maxL + 11) + rm.locals ≤ R.locals)
    (hws : ∀ w ∈ ws, ∀ a' U, s.WarmedH U.vm → w.before a' U = true) (hcode : Cond.code y bytes maxL ret ∈ ws) (hinit : ∀ a' U, s.WarmedH U.vm → (Cond.initialized y.cls).before a' U = true) :
    vx_Back l R p e below s sargs y len W9 (PreOf R mc ms Pc) (PostOf Qc mc ms free) (vx_Post XC mc ms free) := by
  intro m meth c A g ig mk a X hg hsize hdg hW hn hp
  have h1 : (headSpec ws rm).pre.before a A.U = true := atoms_intro fun w hw => hws w hw _ _ X.warmed
  have h2 : (Cond.code y bytes maxL ret).before a A.U = true := hws _ hcode _ _ X.warmed
  have h3 : (Cond.initialized y.cls).before a A.U = true := hinit _ _ X.warmed
  have h4 : A.cells + (headSpec ws rm).room.cells ≤ R.cells := by rw [show (headSpec ws rm).room.cells = mc from hrc]; exact hp.1
  have h5 : A.slots + (headSpec ws rm).room.slots ≤ R.slots := by rw [show (headSpec ws rm).room.slots = ms from hrs]; exact hp.2.1
  have hPc : Pc a (A.U.calling g mk a) := hblind _ _ _ _ hp.2.2
  obtain ⟨U, Ls, c0, s0⟩ := A
  dsimp only [Pt.U, Pt.locs, Pt.cells, Pt.slots] at h1 h2 h3 h4 h5 X hn hPc ⊢
  obtain ⟨methY, cY, hmY, hcY, -, hlY, -, -, -, -⟩ := Cond.code_spec hn h2
  obtain ⟨kY, hkY, -⟩ := className_of_methodNamed hn
  have hinitY : kY.init = .initialized := Cond.initialized_spec (findClass_of_methodNamed hn) hkY h3
  have h : At U g.method c below := by rw [hg]; exact X.here
  have hlocals9 : W9 + (maxL + 11) + (headSpec ws rm).room.locals ≤ R.locals := hlocals
  have happ : (headSpec ws rm).appliesLoose y e.platform (U.calling g mk a) = true :=
    Spec.appliesLoose_calling (g := g) h hdg hn hkY hinitY
      (X.room_calling (g := g) (R' := (headSpec ws rm).room) hsize hmY hcY hframes (by rw [hlY]; omega) h4 h5) h1
  obtain ⟨mid, hmid⟩ := h.above
  have hfr : (U.setTop g).frames = (.java g :: mid) ++ below := by rw [State.frames_setTop' g h.top, hmid]; rfl
  obtain ⟨o, s₂, hsteps, -, hend, hq⟩ := Steps.callFree hM p X.admits X.cas X.clock (acts := []) hfr happ hPc trivial
  have hq' : vx_Q Qc XC mc ms free a (U.calling g mk a) o s₂ := hq
  rw [State.frames_setTop' g h.top] at hend
  obtain ⟨g₀, hg0⟩ := Option.isSome_iff_exists.mp h.top
  obtain ⟨r, hr⟩ := State.topJava?_eq_some.mp hg0
  have hr' : (({ U with heap := s₂.heap, slotsUsed := s₂.slotsUsed } : State).setVm s₂.vm).frames = .java g₀ :: r := hr
  rcases hq' with ⟨hqc, L, hfe, hL⟩ | ⟨q, rfl, E, ce, L, hx, hce, hcv, hcl, hW₂, hsm, hL⟩
  · obtain ⟨⟨v, rfl⟩, hW₂, e2, q2, q3, q4, q5, q6⟩ := id hfe
    have e3 : s₂ = ({ (U.calling g mk a).setFrames s₂.frames with heap := s₂.heap, slotsUsed := s₂.slotsUsed } : State).setVm s₂.vm := by
      have : s₂ = ({ s₂ with vm := (U.calling g mk a).vm } : State).setVm s₂.vm := rfl
      rw [e2] at this
      exact this
    obtain ⟨c₂, i₂, len₂, hc₂, hd₂, hf₂⟩ := hend
    have hW' : U.WarmedH s₂.vm := hW₂
    have hcc : c₂ = c := by
      have h1 : s₂.code? g.method = U.code? g.method := by
        rw [State.code?_eq, State.code?_eq, hW'.alike.method?]
      exact Option.some.inj (hc₂.symm.trans (h1.trans h.code))
    subst hcc
    have hlen : len₂ = len := by rw [hdg] at hd₂; cases hd₂; rfl
    subst hlen
    have hs₂ : s₂ = (({ U with heap := s₂.heap, slotsUsed := s₂.slotsUsed } : State).setVm s₂.vm).setTop { g with pc := g.pc + len₂, stack := v.toList ++ g.stack } := by
      refine e3.trans ?_
      rw [hf₂, State.calling_eq h.top, State.setFrames_setFrames, State.setTop_of_frames _ hr', hr]
      rfl
    have hsame : U.sameButNew ({ U with heap := s₂.heap, slotsUsed := s₂.slotsUsed } : State) L mc ms := by
      refine ⟨?_, q2, q3, q4, q5, q6⟩
      obtain ⟨t, ht, -⟩ := State.frames_cons hr
      show ({ U with heap := s₂.heap, slotsUsed := s₂.slotsUsed } : State) = { U.setFrames U.frames with heap := s₂.heap, slotsUsed := s₂.slotsUsed }
      rw [State.setFrames_self ht]
    subst hg
    refine Or.inl ⟨v, ⟨(({ U with heap := s₂.heap, slotsUsed := s₂.slotsUsed } : State).setVm s₂.vm), Ls ++ L, c0 + mc, s0 + ms⟩,
      ⟨X.admits, X.cas, X.clock, X.frames, X.room, X.hears, X.method, X.code, (X.here.setHeapUsed s₂.heap s₂.slotsUsed).setVm hW'.alike, X.tail, State.WarmedH.trans X.warmed hW', X.limits, X.bytes, X.same.trans (hsame.setVm s.vm)⟩,
      ⟨g, mk, s₂, L, rfl, rfl, hqc, rfl, hL, rfl, rfl⟩, ?_⟩
    show Steps p.tables e below _ ((({ U with heap := s₂.heap, slotsUsed := s₂.slotsUsed } : State).setVm s₂.vm).setTop { g with pc := g.pc + len₂, stack := v.toList ++ g.stack })
    rw [← hs₂]
    exact hsteps
  · obtain ⟨e2, q2, q3, q4, q5, q6⟩ := id hsm
    have e3 : s₂ = ({ (U.calling g mk a).setFrames s₂.frames with heap := s₂.heap, slotsUsed := s₂.slotsUsed } : State).setVm s₂.vm := by
      have : s₂ = ({ s₂ with vm := (U.calling g mk a).vm } : State).setVm s₂.vm := rfl
      rw [e2] at this
      exact this
    have hf₂ : s₂.frames = .throwing q :: .java g :: U.frames.tail := hend
    have hW' : U.WarmedH s₂.vm := hW₂
    have hs₂ : s₂ = ((({ U with heap := s₂.heap, slotsUsed := s₂.slotsUsed } : State).setVm s₂.vm).setTop g).pushFrame (.throwing q) := by
      refine e3.trans ?_
      rw [hf₂, State.calling_eq h.top, State.setFrames_setFrames, State.pushFrame, State.frames_setTop _ hr', State.setTop_of_frames _ hr', State.setFrames_setFrames, hr]
      rfl
    have hsame : U.sameButNew ({ U with heap := s₂.heap, slotsUsed := s₂.slotsUsed } : State) L mc ms := by
      refine ⟨?_, q2, q3, q4, q5, q6⟩
      obtain ⟨t, ht, -⟩ := State.frames_cons hr
      show ({ U with heap := s₂.heap, slotsUsed := s₂.slotsUsed } : State) = { U.setFrames U.frames with heap := s₂.heap, slotsUsed := s₂.slotsUsed }
      rw [State.setFrames_self ht]
    subst hg
    refine Or.inr ⟨q, ⟨(({ U with heap := s₂.heap, slotsUsed := s₂.slotsUsed } : State).setVm s₂.vm), Ls ++ L, c0 + mc, s0 + ms⟩,
      ⟨X.admits, X.cas, X.clock, X.frames, X.room, X.hears, X.method, X.code, (X.here.setHeapUsed s₂.heap s₂.slotsUsed).setVm hW'.alike, X.tail, State.WarmedH.trans X.warmed hW', X.limits, X.bytes, X.same.trans (hsame.setVm s.vm)⟩,
      ⟨g, mk, s₂, L, E, ce, rfl, rfl, hx, hce, hcv, hcl, rfl, hL, rfl, rfl⟩, ?_⟩
    show Steps p.tables e below _ (((({ U with heap := s₂.heap, slotsUsed := s₂.slotsUsed } : State).setVm s₂.vm).setTop g).pushFrame (.throwing q))
    rw [← hs₂]
    exact hsteps
end Payer
section Calls
variable {p : Program} {l : Launch} {e : Env} {R : Room} {s : State} {m : MethodId} {args : Array Value} {below : List Frame} {meth : Method} {c : Code} {T : State} {locs : List Loc} {cells slots : Nat}
theorem vx_callV (X : Stand p l e R s m args below meth c T locs cells slots) (hexec : p.tables.exec = Jvm.exec) {own C : String} {index : Nat} {y : MethodName} {bytes : ByteArray} {maxL : Nat} {ret : Option FieldType}
    (hown : s.vm.findClass own = some m.cls) (hlink : (Cond.methodLink own index y).before args s = true) (hinst : (Cond.instanceMethod y).before args s = true) (hsel : (Cond.selects C y y).before args s = true)
    (hcode : (Cond.code y bytes maxL ret).before args s = true) (hy : y.cls ≠ "java/lang/invoke/MethodHandle" ∧ y.cls ≠ "java/lang/invoke/VarHandle")
    {W9 : Nat} {Pre : Pt → Array Value → Prop} {Post : Pt → Array Value → Option Value → Pt → Prop} {PostX : Pt → Array Value → Addr → Pt → Prop} (hK : vx_Back l R p e below s args y 3 W9 Pre Post PostX)
    {b : Addr} {cellB : Cell} (hcell : T.heap[b]? = some cellB) (hobj : cellB.vm.isStatics = false) (hcls : s.vm.findClass C = some cellB.cls)
    {g : JFrame} (hg : g.method = m) (hsize : g.locals.size = c.maxLocals) {argsL rest : List Value} (hlen : ∀ sig, parseMethodDescriptor y.desc = some sig → argsL.length = sig.parameters.length)
    (hstack : g.stack = argsL.reverse ++ .ref b :: rest) (hW : 2 * g.monitorRoom + (rest.map fun v => v.category).sum ≤ W9) (hdg : decode c.code g.pc = .ok (.invokevirtual index, 3))
    (hpre : ∀ vm₁, s.WarmedH vm₁ → Pre ⟨T.setVm vm₁, locs, cells, slots⟩ (Value.ref b :: argsL).toArray) :
    (∃ (v : Option Value) (vm₁ : Vm) (B : Pt), s.WarmedH vm₁ ∧ Stand p l e R s m args below meth c B.U B.locs B.cells B.slots ∧ Post ⟨T.setVm vm₁, locs, cells, slots⟩ (Value.ref b :: argsL).toArray v B ∧
      ∀ target, Steps p.tables e below (B.U.setTop { g with pc := g.pc + 3, stack := v.toList ++ rest }) target → Steps p.tables e below (T.setTop g) target) ∨
    (∃ (q : Addr) (vm₁ : Vm) (B : Pt), s.WarmedH vm₁ ∧ Stand p l e R s m args below meth c B.U B.locs B.cells B.slots ∧ PostX ⟨T.setVm vm₁, locs, cells, slots⟩ (Value.ref b :: argsL).toArray q B ∧
      Steps p.tables e below (T.setTop g) ((B.U.setTop { g with stack := rest }).pushFrame (.throwing q))) := by
  obtain ⟨mk, methM, hnamed, hmethM, hstM, habM⟩ := Cond.instanceMethod_spec hinst
  obtain ⟨methM', cM, hmethM', -, -, -, -, -, -, hsigM⟩ := Cond.code_spec hnamed hcode
  cases hmethM.symm.trans hmethM'
  obtain ⟨c2, r2, m2, q1, q2, q3, q4, kP, hkP, hkPi⟩ := Cond.selects_spec hsel
  cases hcls.symm.trans q1
  cases (State.methodFound?_of_named hnamed hy).symm.trans q2
  cases hnamed.symm.trans q3
  have hselP : selectMethod e.platform s.vm cellB.cls mk = .method mk := by rw [Launch.admits_selectMethod X.admits]; exact q4
  obtain ⟨vm₁, X₁, hstep₁⟩ := X.invokevirtual hexec hown hlink hnamed hmethM hstM hkP hkPi hy (a := b) (cell := cellB) hcell
    (fun z h => by rw [h] at hobj; cases hobj) hselP hmethM habM hkP hkPi (g := g) hg (argsL := argsL) (rest := rest) (hlen _ hsigM) hstack hdg
  rcases hK m meth c ⟨T.setVm vm₁, locs, cells, slots⟩ { g with stack := rest } (.invokevirtual index) mk (Value.ref b :: argsL).toArray X₁ hg hsize hdg hW (X₁.named hnamed) (hpre vm₁ X₁.warmed) with ⟨v, B, X', hpost, hsteps⟩ | ⟨q, B, X', hpost, hsteps⟩
  · exact Or.inl ⟨v, vm₁, B, X₁.warmed, X', hpost, fun target h => hstep₁ _ fun acts => by rw [doInvoke_state]; exact hsteps.trans h⟩
  · exact Or.inr ⟨q, vm₁, B, X₁.warmed, X', hpost, hstep₁ _ fun acts => by rw [doInvoke_state]; exact hsteps⟩
theorem vx_callS (X : Stand p l e R s m args below meth c T locs cells slots) (hexec : p.tables.exec = Jvm.exec) {own : String} {index : Nat} {y : MethodName} {bytes : ByteArray} {maxL : Nat} {ret : Option FieldType}
    (hown : s.vm.findClass own = some m.cls) (hlink : (Cond.methodLink own index y).before args s = true) (hstat : (Cond.static y).before args s = true) (hinit : (Cond.initialized y.cls).before args s = true)
    (hcode : (Cond.code y bytes maxL ret).before args s = true) (hy : y.cls ≠ "java/lang/invoke/MethodHandle" ∧ y.cls ≠ "java/lang/invoke/VarHandle")
    {W9 : Nat} {Pre : Pt → Array Value → Prop} {Post : Pt → Array Value → Option Value → Pt → Prop} {PostX : Pt → Array Value → Addr → Pt → Prop} (hK : vx_Back l R p e below s args y 3 W9 Pre Post PostX)
    {g : JFrame} (hg : g.method = m) (hsize : g.locals.size = c.maxLocals) {argsL rest : List Value} (hlen : ∀ sig, parseMethodDescriptor y.desc = some sig → argsL.length = sig.parameters.length)
    (hstack : g.stack = argsL.reverse ++ rest) (hW : 2 * g.monitorRoom + (rest.map fun v => v.category).sum ≤ W9) (hdg : decode c.code g.pc = .ok (.invokestatic index, 3))
    (hpre : ∀ vm₁, s.WarmedH vm₁ → Pre ⟨T.setVm vm₁, locs, cells, slots⟩ argsL.toArray) :
    (∃ (v : Option Value) (vm₁ : Vm) (B : Pt), s.WarmedH vm₁ ∧ Stand p l e R s m args below meth c B.U B.locs B.cells B.slots ∧ Post ⟨T.setVm vm₁, locs, cells, slots⟩ argsL.toArray v B ∧
      ∀ target, Steps p.tables e below (B.U.setTop { g with pc := g.pc + 3, stack := v.toList ++ rest }) target → Steps p.tables e below (T.setTop g) target) ∨
    (∃ (q : Addr) (vm₁ : Vm) (B : Pt), s.WarmedH vm₁ ∧ Stand p l e R s m args below meth c B.U B.locs B.cells B.slots ∧ PostX ⟨T.setVm vm₁, locs, cells, slots⟩ argsL.toArray q B ∧
      Steps p.tables e below (T.setTop g) ((B.U.setTop { g with stack := rest }).pushFrame (.throwing q))) := by
  obtain ⟨mk, hnamed⟩ := Cond.code_named hcode
  obtain ⟨methM, cM, hmethM, -, -, -, -, -, -, hsigM⟩ := Cond.code_spec hnamed hcode
  have hstatic : methM.isStatic = true := Cond.static_spec hnamed hmethM hstat
  obtain ⟨kP, hkP, -⟩ := className_of_methodNamed hnamed
  have hinitP : kP.init = .initialized := Cond.initialized_spec (findClass_of_methodNamed hnamed) hkP hinit
  obtain ⟨vm₁, X₁, hstep₁⟩ := X.invokestatic hexec hown hlink hnamed hmethM hstatic hkP hinitP hy (g := g) hg (argsL := argsL) (rest := rest) (hlen _ hsigM) hstack hdg
  rcases hK m meth c ⟨T.setVm vm₁, locs, cells, slots⟩ { g with stack := rest } (.invokestatic index) mk argsL.toArray X₁ hg hsize hdg hW (X₁.named hnamed) (hpre vm₁ X₁.warmed) with ⟨v, B, X', hpost, hsteps⟩ | ⟨q, B, X', hpost, hsteps⟩
  · exact Or.inl ⟨v, vm₁, B, X₁.warmed, X', hpost, fun target h => hstep₁ _ fun acts => by rw [doInvoke_state]; exact hsteps.trans h⟩
  · exact Or.inr ⟨q, vm₁, B, X₁.warmed, X', hpost, hstep₁ _ fun acts => by rw [doInvoke_state]; exact hsteps⟩
end Calls
theorem vx_cls {s : State} {T : State} {vm₁ : Vm} {E : String} {k : ClassId} (hW : s.WarmedH vm₁) (h : (T.setVm vm₁).vm.findClass E = some k) : s.vm.findClass E = some k := by
  have h1 : vm₁.findClass E = some k := h
  rw [hW.alike.findClass] at h1
  exact h1
noncomputable def vx_W (p : Program) (l : Launch) (e : Env) (R : Room) (s : State) (m : MethodId) (args : Array Value) (below : List Frame) (meth : Method) (c : Code) (H : Heap) (locs : List Loc) (cells slots : Nat) (Q : State → Prop) (g : JFrame) (q : Addr) : Prop :=
  ∀ T : State, T.heap = H → Stand p l e R s m args below meth c T locs cells slots → ∃ t, Steps p.tables e below ((T.setTop g).pushFrame (.throwing q)) t ∧ Q t
noncomputable def vx_Run (p : Program) (l : Launch) (e : Env) (R : Room) (s : State) (m : MethodId) (args : Array Value) (below : List Frame) (meth : Method) (c : Code) (H : Heap) (locs : List Loc) (cells slots mc ms : Nat) (g : JFrame) (rest : List Value) (Qa : State → Outcome → State → Prop) (XC : String → State → State → Prop) (free : Addr → Prop) : Prop :=
  ∀ T : State, T.heap = H → Stand p l e R s m args below meth c T locs cells slots →
    (∃ (v : Option Value) (st₀ t T' : State) (L : List Loc), st₀.heap = H ∧ Stand p l e R s m args below meth c T' (locs ++ L) (cells + mc) (slots + ms) ∧ (∀ q ∈ L, free q.base) ∧ T'.heap = t.heap ∧ T'.vm = t.vm ∧ Qa st₀ (.returned v) t ∧
      Goes p e below T g T' { g with pc := g.pc + 3, stack := v.toList ++ rest }) ∨
    (∃ (q : Addr) (st₀ t T' : State) (L : List Loc) (E : String) (ce : Cell), st₀.heap = H ∧ Stand p l e R s m args below meth c T' (locs ++ L) (cells + mc) (slots + ms) ∧ (∀ z ∈ L, free z.base) ∧ T'.heap = t.heap ∧ T'.vm = t.vm ∧ XC E st₀ t ∧ t.heap[q]? = some ce ∧ ce.vm = .none ∧ s.vm.findClass E = some ce.cls ∧
      Steps p.tables e below (T.setTop g) ((T'.setTop { g with stack := rest }).pushFrame (.throwing q)))
noncomputable def vx_X {S : Type} (px : S → Prop) (B : String → S → State → Prop) (A : Nat → Prop) : String → State → State → Prop := fun E st t => ∃ u : S, px u ∧ B E u t ∧ va_F A st t
section Runs
variable {p : Program} {l : Launch} {e : Env} {R : Room} {s : State} {m : MethodId} {args : Array Value} {below : List Frame} {meth : Method} {c : Code} {H : Heap} {locs : List Loc} {cells slots : Nat}
variable {y : MethodName} {bytes cc : ByteArray} {maxL nL mc ms n index : Nat} {ret : Option FieldType} {ws : List Cond} {rm : Room} {Pc : Array Value → State → Prop} {Qc : Array Value → State → Outcome → State → Prop} {XC : String → State → State → Prop} {free : Addr → Prop} {Ts : List Cond} {own C : String} {b : Addr} {As rest : List Value} {g : JFrame}
theorem vx_callBack (cb : CallB R s args own index y bytes maxL ret ws rm mc ms n) (hM : vx_Met l y ws rm Pc Qc XC mc ms free) (hbl : FrameBlind Pc) : vx_Back l R p e below s args y 3 8 (PreOf R mc ms Pc) (PostOf Qc mc ms free) (vx_Post XC mc ms free) := by
  obtain ⟨hrc, hrs, hfr, hlo, hws, hcw, -, hini, -⟩ := cb
  exact vx_back (bytes := bytes) (maxL := maxL) (ret := ret) hM hbl hrc hrs hfr hlo hws hcw (fun a' U hW => word_at hW (Or.inl (by first | rfl | simp [Cond.onTables, Cond.keeps, Cond.steady])) hini)
theorem vx_runV (S : CallFix p m c cc nL s args Ts own) (hM : vx_Met l y ws rm Pc Qc XC mc ms free) (cw : CallW R s args own C index y bytes maxL ret ws rm mc ms n) (hp : PreV s H C b Pc As)
    (hg : g.method = m) (hn : As.length = n) (hsize : g.locals.size = nL) (hstack : g.stack = As.reverse ++ .ref b :: rest) (hW : 2 * g.monitorRoom + (rest.map fun v => v.category).sum ≤ 8) (hdg : decode cc g.pc = .ok (.invokevirtual index, 3)) (hf : cells + mc ≤ R.cells ∧ slots + ms ≤ R.slots) :
    vx_Run p l e R s m args below meth c H locs cells slots mc ms g rest (Qc (Value.ref b :: As).toArray) XC free := by
  have hK : vx_Back l R p e below s args y 3 8 (PreOf R mc ms Pc) (PostOf Qc mc ms free) (vx_Post XC mc ms free) := vx_callBack cw.1 hM hp.1
  obtain ⟨⟨-, -, -, -, -, -, hcode, -, hy, hlen, hl⟩, hin, hse⟩ := cw
  obtain ⟨hx, hb, hml, ho, -⟩ := S
  obtain ⟨-, ⟨cellB, hcB, hoB, hclB⟩, hPc⟩ := hp
  intro T hT X
  rcases vx_callV X hx (C := C) (bytes := bytes) (maxL := maxL) (ret := ret) ho hl hin hse hcode hy hK (by rw [hT]; exact hcB) hoB hclB hg (hsize.trans hml.symm) (argsL := As) (rest := rest) (fun sig h => hn.trans (hlen sig h)) hstack hW (by rw [hb]; exact hdg)
    (fun vm₁ hW₁ => ⟨hf.1, hf.2, hPc (T.setVm vm₁) hT hW₁⟩) with ⟨v, vm₁, ⟨U', l2, c2, s2⟩, hW₁, X', ⟨g', mk, t, L, e1, e2, hq, h1, hL, h2, h3⟩, st⟩ | ⟨q, vm₁, ⟨U', l2, c2, s2⟩, hW₁, X', ⟨g', mk, t, L, E, ce, e1, e2, hq, hce, hcv, hcl, h1, hL, h2, h3⟩, st⟩
  · dsimp only [Pt.U, Pt.locs, Pt.cells, Pt.slots] at X' e1 e2 h1 h2 h3 st
    subst h1; subst h2; subst h3
    exact Or.inl ⟨v, (T.setVm vm₁).calling g' mk (Value.ref b :: As).toArray, t, U', L, hT, X', hL, e1, e2, hq, st⟩
  · dsimp only [Pt.U, Pt.locs, Pt.cells, Pt.slots] at X' e1 e2 h1 h2 h3 st hcl
    subst h1; subst h2; subst h3
    exact Or.inr ⟨q, (T.setVm vm₁).calling g' mk (Value.ref b :: As).toArray, t, U', L, E, ce, hT, X', hL, e1, e2, hq, hce, hcv, vx_cls hW₁ hcl, st⟩
theorem vx_runS (S : CallFix p m c cc nL s args Ts own) (hM : vx_Met l y ws rm Pc Qc XC mc ms free) (cw : CallB R s args own index y bytes maxL ret ws rm mc ms n ∧ (Cond.static y).before args s = true) (hp : PreS s H Pc As)
    (hg : g.method = m) (hn : As.length = n) (hsize : g.locals.size = nL) (hstack : g.stack = As.reverse ++ rest) (hW : 2 * g.monitorRoom + (rest.map fun v => v.category).sum ≤ 8) (hdg : decode cc g.pc = .ok (.invokestatic index, 3)) (hf : cells + mc ≤ R.cells ∧ slots + ms ≤ R.slots) :
    vx_Run p l e R s m args below meth c H locs cells slots mc ms g rest (Qc As.toArray) XC free := by
  have hK : vx_Back l R p e below s args y 3 8 (PreOf R mc ms Pc) (PostOf Qc mc ms free) (vx_Post XC mc ms free) := vx_callBack cw.1 hM hp.1
  obtain ⟨⟨-, -, -, -, -, -, hcode, hini, hy, hlen, hl⟩, hstt⟩ := cw
  obtain ⟨hx, hb, hml, ho, -⟩ := S
  intro T hT X
  rcases vx_callS X hx (bytes := bytes) (maxL := maxL) (ret := ret) ho hl hstt hini hcode hy hK hg (hsize.trans hml.symm) (argsL := As) (rest := rest) (fun sig h => hn.trans (hlen sig h)) hstack hW (by rw [hb]; exact hdg)
    (fun vm₁ hW₁ => ⟨hf.1, hf.2, hp.2 (T.setVm vm₁) hT hW₁⟩) with ⟨v, vm₁, ⟨U', l2, c2, s2⟩, hW₁, X', ⟨g', mk, t, L, e1, e2, hq, h1, hL, h2, h3⟩, st⟩ | ⟨q, vm₁, ⟨U', l2, c2, s2⟩, hW₁, X', ⟨g', mk, t, L, E, ce, e1, e2, hq, hce, hcv, hcl, h1, hL, h2, h3⟩, st⟩
  · dsimp only [Pt.U, Pt.locs, Pt.cells, Pt.slots] at X' e1 e2 h1 h2 h3 st
    subst h1; subst h2; subst h3
    exact Or.inl ⟨v, (T.setVm vm₁).calling g' mk As.toArray, t, U', L, hT, X', hL, e1, e2, hq, st⟩
  · dsimp only [Pt.U, Pt.locs, Pt.cells, Pt.slots] at X' e1 e2 h1 h2 h3 st hcl
    subst h1; subst h2; subst h3
    exact Or.inr ⟨q, (T.setVm vm₁).calling g' mk As.toArray, t, U', L, E, ce, hT, X', hL, e1, e2, hq, hce, hcv, vx_cls hW₁ hcl, st⟩
end Runs
section Rows
variable {p : Program} {l : Launch} {e : Env} {R : Room} {s : State} {m : MethodId} {args : Array Value} {below : List Frame} {meth : Method} {c : Code} {H : Heap} {locs : List Loc} {cells slots : Nat} {Q : State → Prop}
variable {mc ms : Nat} {free : Addr → Prop} {A0 A1 : Nat → Prop} {H0 : Heap} {a : Array Value} {pc : Nat} {ls : Array Slot} {st0 rest : List Value}
theorem vx_keep {st₀ t T' : State} {L : List Loc} (h0 : st₀.heap = H) (e1 : T'.heap = t.heap) (hS : va_S A0 H0 H locs) (hA : ∀ q, q < H.size → A1 q → A0 q) (hf : ∀ q, free q → A0 q) (hL : ∀ q ∈ L, free q.base) (hF : va_F A1 st₀ t) :
    H.size ≤ T'.heap.size ∧ (∀ q : Nat, q < H.size → ¬ A1 q → T'.heap[q]? = H[q]?) ∧ va_S A0 H0 T'.heap (locs ++ L) := by
  obtain ⟨hz, hk⟩ := hF
  rw [h0] at hz hk
  exact ⟨by rw [e1]; exact hz, fun q h1 h2 => by rw [e1]; exact hk q h1 h2,
    ⟨Nat.le_trans hS.1 (by rw [e1]; exact hz), fun q h1 h2 => by rw [e1, hk q (Nat.lt_of_lt_of_le h1 hS.1) (fun z => h2 (hA q (Nat.lt_of_lt_of_le h1 hS.1) z))]; exact hS.2.1 q h1 h2, fun q hq => by
      rcases List.mem_append.mp hq with h | h
      · exact hS.2.2 q h
      · exact hf _ (hL q h)⟩⟩
theorem vx_calli {S SX : Type} {post : Int32 → S → Prop} {px : SX → Prop} {B : S → State → Prop} {BX : String → SX → State → Prop} {AX : Nat → Prop} (hr : vx_Run p l e R s m args below meth c H locs cells slots mc ms (F0 m pc ls st0) rest (va_Qi post B A1 a) (vx_X px BX AX) free) (hS : va_S A0 H0 H locs) (hA : ∀ q, q < H.size → A1 q → A0 q) (hf : ∀ q, free q → A0 q) (hAX : ∀ q, q < H.size → AX q → A0 q)
    (kx : ∀ (E : String) (ce : Cell) (q9 : Addr) (u : SX) (t : State) (H1 : Heap) (locs1 : List Loc), t.heap = H1 → s.vm.Alike t.vm → px u → BX E u t → H.size ≤ H1.size → (∀ q : Nat, q < H.size → ¬ AX q → H1[q]? = H[q]?) → va_S A0 H0 H1 locs1 → H1[q9]? = some ce → ce.vm = .none → s.vm.findClass E = some ce.cls → vx_W p l e R s m args below meth c H1 locs1 (cells + mc) (slots + ms) Q (F0 m pc ls rest) q9)
    (kk : ∀ (r : Int32) (u : S) (t : State) (H1 : Heap) (locs1 : List Loc), t.heap = H1 → s.vm.Alike t.vm → post r u → B u t → H.size ≤ H1.size → (∀ q : Nat, q < H.size → ¬ A1 q → H1[q]? = H[q]?) → va_S A0 H0 H1 locs1 → W p l e R s m args below meth c H1 locs1 (cells + mc) (slots + ms) Q (F0 m (pc + 3) ls (.int r :: rest))) : W p l e R s m args below meth c H locs cells slots Q (F0 m pc ls st0) := by
  intro T hT X
  rcases hr T hT X with ⟨v, st₀, t, T', L, h0, X', hL, e1, e2, ⟨⟨r, u, hv, hp, hb⟩, hF⟩, st⟩ | ⟨q, st₀, t, T', L, E, ce, h0, X', hL, e1, e2, ⟨u, hp, hb, hF⟩, hce, hcv, hcl, st⟩
  · cases hv
    obtain ⟨k1, k2, k3⟩ := vx_keep h0 e1 hS hA hf hL hF
    obtain ⟨t2, a1, b1⟩ := kk r u t T'.heap (locs ++ L) e1.symm (by rw [← e2]; exact X'.warmed.alike) hp hb k1 k2 k3 T' rfl X'
    exact ⟨t2, st t2 a1, b1⟩
  · obtain ⟨k1, k2, k3⟩ := vx_keep h0 e1 hS hAX hf hL hF
    obtain ⟨t2, a1, b1⟩ := kx E ce q u t T'.heap (locs ++ L) e1.symm (by rw [← e2]; exact X'.warmed.alike) hp hb k1 k2 k3 (by rw [e1]; exact hce) hcv hcl T' rfl X'
    exact ⟨t2, st.trans a1, b1⟩
theorem vx_callf {S SX : Type} {post : UInt32 → S → Prop} {px : SX → Prop} {B : S → State → Prop} {BX : String → SX → State → Prop} {AX : Nat → Prop} (hr : vx_Run p l e R s m args below meth c H locs cells slots mc ms (F0 m pc ls st0) rest (va_Qf post B A1 a) (vx_X px BX AX) free) (hS : va_S A0 H0 H locs) (hA : ∀ q, q < H.size → A1 q → A0 q) (hf : ∀ q, free q → A0 q) (hAX : ∀ q, q < H.size → AX q → A0 q)
    (kx : ∀ (E : String) (ce : Cell) (q9 : Addr) (u : SX) (t : State) (H1 : Heap) (locs1 : List Loc), t.heap = H1 → s.vm.Alike t.vm → px u → BX E u t → H.size ≤ H1.size → (∀ q : Nat, q < H.size → ¬ AX q → H1[q]? = H[q]?) → va_S A0 H0 H1 locs1 → H1[q9]? = some ce → ce.vm = .none → s.vm.findClass E = some ce.cls → vx_W p l e R s m args below meth c H1 locs1 (cells + mc) (slots + ms) Q (F0 m pc ls rest) q9)
    (kk : ∀ (r : UInt32) (u : S) (t : State) (H1 : Heap) (locs1 : List Loc), t.heap = H1 → s.vm.Alike t.vm → post r u → B u t → H.size ≤ H1.size → (∀ q : Nat, q < H.size → ¬ A1 q → H1[q]? = H[q]?) → va_S A0 H0 H1 locs1 → W p l e R s m args below meth c H1 locs1 (cells + mc) (slots + ms) Q (F0 m (pc + 3) ls (.float r :: rest))) : W p l e R s m args below meth c H locs cells slots Q (F0 m pc ls st0) := by
  intro T hT X
  rcases hr T hT X with ⟨v, st₀, t, T', L, h0, X', hL, e1, e2, ⟨⟨r, u, hv, hp, hb⟩, hF⟩, st⟩ | ⟨q, st₀, t, T', L, E, ce, h0, X', hL, e1, e2, ⟨u, hp, hb, hF⟩, hce, hcv, hcl, st⟩
  · cases hv
    obtain ⟨k1, k2, k3⟩ := vx_keep h0 e1 hS hA hf hL hF
    obtain ⟨t2, a1, b1⟩ := kk r u t T'.heap (locs ++ L) e1.symm (by rw [← e2]; exact X'.warmed.alike) hp hb k1 k2 k3 T' rfl X'
    exact ⟨t2, st t2 a1, b1⟩
  · obtain ⟨k1, k2, k3⟩ := vx_keep h0 e1 hS hAX hf hL hF
    obtain ⟨t2, a1, b1⟩ := kx E ce q u t T'.heap (locs ++ L) e1.symm (by rw [← e2]; exact X'.warmed.alike) hp hb k1 k2 k3 (by rw [e1]; exact hce) hcv hcl T' rfl X'
    exact ⟨t2, st.trans a1, b1⟩
theorem vx_callv {S SX : Type} {post : S → Prop} {px : SX → Prop} {B : S → State → Prop} {BX : String → SX → State → Prop} {AX : Nat → Prop} (hr : vx_Run p l e R s m args below meth c H locs cells slots mc ms (F0 m pc ls st0) rest (va_Qv post B A1 a) (vx_X px BX AX) free) (hS : va_S A0 H0 H locs) (hA : ∀ q, q < H.size → A1 q → A0 q) (hf : ∀ q, free q → A0 q) (hAX : ∀ q, q < H.size → AX q → A0 q)
    (kx : ∀ (E : String) (ce : Cell) (q9 : Addr) (u : SX) (t : State) (H1 : Heap) (locs1 : List Loc), t.heap = H1 → s.vm.Alike t.vm → px u → BX E u t → H.size ≤ H1.size → (∀ q : Nat, q < H.size → ¬ AX q → H1[q]? = H[q]?) → va_S A0 H0 H1 locs1 → H1[q9]? = some ce → ce.vm = .none → s.vm.findClass E = some ce.cls → vx_W p l e R s m args below meth c H1 locs1 (cells + mc) (slots + ms) Q (F0 m pc ls rest) q9)
    (kk : ∀ (u : S) (t : State) (H1 : Heap) (locs1 : List Loc), t.heap = H1 → s.vm.Alike t.vm → post u → B u t → H.size ≤ H1.size → (∀ q : Nat, q < H.size → ¬ A1 q → H1[q]? = H[q]?) → va_S A0 H0 H1 locs1 → W p l e R s m args below meth c H1 locs1 (cells + mc) (slots + ms) Q (F0 m (pc + 3) ls (rest))) : W p l e R s m args below meth c H locs cells slots Q (F0 m pc ls st0) := by
  intro T hT X
  rcases hr T hT X with ⟨v, st₀, t, T', L, h0, X', hL, e1, e2, ⟨⟨u, hv, hp, hb⟩, hF⟩, st⟩ | ⟨q, st₀, t, T', L, E, ce, h0, X', hL, e1, e2, ⟨u, hp, hb, hF⟩, hce, hcv, hcl, st⟩
  · cases hv
    obtain ⟨k1, k2, k3⟩ := vx_keep h0 e1 hS hA hf hL hF
    obtain ⟨t2, a1, b1⟩ := kk u t T'.heap (locs ++ L) e1.symm (by rw [← e2]; exact X'.warmed.alike) hp hb k1 k2 k3 T' rfl X'
    exact ⟨t2, st t2 a1, b1⟩
  · obtain ⟨k1, k2, k3⟩ := vx_keep h0 e1 hS hAX hf hL hF
    obtain ⟨t2, a1, b1⟩ := kx E ce q u t T'.heap (locs ++ L) e1.symm (by rw [← e2]; exact X'.warmed.alike) hp hb k1 k2 k3 (by rw [e1]; exact hce) hcv hcl T' rfl X'
    exact ⟨t2, st.trans a1, b1⟩
theorem vx_catch {own name : String} {E : String} {ce : Cell} {q : Addr} (hown : s.vm.findClass own = some m.cls) (pre : List ExceptionTableEntry) (x : ExceptionTableEntry) (suf : List ExceptionTableEntry) (hsplit : c.exceptionTable.toList = pre ++ x :: suf)
    (hpass : ∀ z ∈ pre, covers z pc = false ∨ (z.catchType ≠ 0 ∧ ∃ nm : String, (Cond.classLink own z.catchType nm).before args s = true ∧ va_Nc E nm s)) (hx : covers x pc = true) (h0 : x.catchType ≠ 0)
    (hlink : (Cond.classLink own x.catchType name).before args s = true) (hcast : (Cond.castable E name).before args s = true) (hcell : H[q]? = some ce) (hv : ce.vm = .none) (hcl : s.vm.findClass E = some ce.cls)
    (kk : W p l e R s m args below meth c H locs cells slots Q (F0 m x.handlerPc ls [.ref q])) : vx_W p l e R s m args below meth c H locs cells slots Q (F0 m pc ls rest) q := by
  intro T hT X
  have hpl : e.platform.magicAccessors = ({} : Platform).magicAccessors := by rw [X.admits.platform]
  obtain ⟨c3, c4, hc3, hc4, hasg⟩ := Cond.castable_spec hcast
  cases Option.some.inj (hc3.symm.trans hcl)
  obtain ⟨c5, hc5, hcl5⟩ := Cond.classLink_spec hown hlink e.platform hpl
  cases Option.some.inj (hc4.symm.trans hc5)
  obtain ⟨vm', X', st⟩ := X.thenCaughtThrough q (g := F0 m pc ls rest) rfl (Steps.refl _) (by rw [hT]; exact hcell) (by rw [hv]; rfl) (by obtain ⟨k9, h9, -⟩ := Vm.findClass_spec hcl; exact ⟨k9, h9⟩) pre x suf hsplit
    (fun z hz => by
      rcases hpass z hz with h | ⟨hz0, nm, hl1, hn1⟩
      · exact Or.inl h
      · obtain ⟨c6, hc6, hcl6⟩ := Cond.classLink_spec hown hl1 e.platform hpl
        obtain ⟨a8, b8, h1, h2, h3⟩ := hn1
        cases Option.some.inj (h1.symm.trans hcl)
        cases Option.some.inj (h2.symm.trans hc6)
        exact Or.inr ⟨hz0, _, hcl6, h3⟩) hx (Or.inr ⟨h0, c4, hcl5, hasg⟩)
  obtain ⟨t, a1, b1⟩ := kk (T.setVm vm') hT X'
  exact ⟨t, st.trans a1, b1⟩
end Rows
section Ends
variable {p : Program} {l : Launch} {e : Env} {R : Room} {s : State} {m : MethodId} {args : Array Value} {below : List Frame} {meth : Method} {c : Code} {H : Heap} {locs : List Loc} {cells slots : Nat} {Q : State → Prop}
variable {mc ms : Nat} {free : Addr → Prop} {A0 A1 : Nat → Prop} {H0 : Heap} {a : Array Value} {ls : Array Slot} {st0 rest : List Value}
variable {Qc : Array Value → State → Outcome → State → Prop} {XC : String → State → State → Prop}
noncomputable def vx_MQ (below : List Frame) (Qc : Array Value → State → Outcome → State → Prop) (XC : String → State → State → Prop) (a : Array Value) (s : State) (mc ms : Nat) (free : Addr → Prop) : State → Prop := fun t =>
  ∃ o, t.status = .running ∧ Ended t below o ∧ vx_Q Qc XC mc ms free a s o t
theorem vx_ret {g : JFrame} {mc ms : Nat} (k : W p l e R s m args below meth c H locs cells slots (MQ below Qc args s mc ms free) g) : W p l e R s m args below meth c H locs cells slots (vx_MQ below Qc XC args s mc ms free) g := by
  intro T hT X
  obtain ⟨t, a1, o, b1, b2, b3, b4⟩ := k T hT X
  exact ⟨t, a1, o, b1, b2, Or.inl ⟨b3, b4⟩⟩
theorem vx_out {pc : Nat} {E : String} {ce : Cell} {q : Addr} {mc ms : Nat} (hout : ∀ x ∈ c.exceptionTable.toList, covers x pc = false) (hlocks : meth.locks = false) (hcell : H[q]? = some ce) (hv : ce.vm = .none) (hcl : s.vm.findClass E = some ce.cls)
    (hx : ∀ t : State, t.heap = H → s.vm.Alike t.vm → XC E s t) (hf : ∀ z ∈ locs, free z.base) (hc : cells ≤ mc) (hs : slots ≤ ms) :
    vx_W p l e R s m args below meth c H locs cells slots (vx_MQ below Qc XC args s mc ms free) (F0 m pc ls rest) q := by
  intro T hT X
  obtain ⟨st1, hrun, hend, hW, hsm⟩ := X.leaveThrown q (g := F0 m pc ls rest) rfl rfl rfl hout hlocks
  have hcell9 : (T.setFrames (.throwing q :: below)).heap[q]? = some ce := by
    show T.heap[q]? = some ce
    rw [hT]; exact hcell
  exact ⟨_, st1, .threw q, hrun, hend, Or.inr ⟨q, rfl, E, ce, locs, hx _ hT hW.alike, hcell9, hv, hcl, hW, hsm.mono hc hs, hf⟩⟩
theorem vx_frame {U : State} {k n : Nat} (h : s.sameButNew ({ U with vm := s.vm } : State) locs k n) : s.heap.size ≤ U.heap.size ∧ ∀ q : Nat, q < s.heap.size → (∀ z ∈ locs, z.base ≠ q) → U.heap[q]? = s.heap[q]? := by
  obtain ⟨-, h2, -, -, -, h6⟩ := h
  refine ⟨h2, fun q hq hz => ?_⟩
  obtain ⟨c9, e1, e2, e3, e4⟩ := h6 q _ (Array.getElem?_eq_getElem hq)
  have hs : c9.slots = (s.heap[q]).slots := Array.ext_getElem? fun i => e4 i fun hm => hz _ hm rfl
  have h9 : c9 = s.heap[q] := by
    rw [hs] at e2
    exact e2
  have e5 : U.heap[q]? = some c9 := e1
  rw [e5, h9, Array.getElem?_eq_getElem hq]
noncomputable def vx_no (w : Cond) : Bool := decide (w ≠ .isRef (.static Bundle.tN "UNASSIGNED_STACK" Bundle.steD)) && decide (w ≠ .isRef (.static Bundle.tN "SUPPRESSED_SENTINEL" Bundle.listD)) && decide (w ≠ .laysStatic Bundle.tN "UNASSIGNED_STACK" Bundle.steD) && decide (w ≠ .laysStatic Bundle.tN "SUPPRESSED_SENTINEL" Bundle.listD)
noncomputable def vx_atS (own : String) (ic : Nat) (X : String) (names : List String) : List Cond := (Bundle.ownAtoms own ic X names).filter vx_no
noncomputable def vx_ot (w : Cond) : Bool := w.onTables || goodWord w
theorem vx_ot_at {args a' : Array Value} {s U : State} {w : Cond} (hW : s.WarmedH U.vm) (hvm : s.vm = U.vm) (hg : vx_ot w = true) (h : w.before args s = true) : w.before a' U = true := by
  simp only [vx_ot, Bool.or_eq_true] at hg
  rcases hg with hg | hg
  · exact va_tabs hg hvm h
  · exact word_at hW (good_of_word hg) h
theorem vx_hat {args : Array Value} {s : State} {L B : List Cond} (h1 : ∀ w ∈ L.filter goodWord, w.before args s = true) (h2 : ∀ w ∈ L.filter (fun w => !goodWord w), w ∈ B) (h3 : ∀ w ∈ B, w.before args s = true) : ∀ w ∈ L, w.before args s = true := by
  intro w hw
  by_cases g : goodWord w = true
  · exact h1 w (List.mem_filter.mpr ⟨hw, g⟩)
  · refine h3 w (h2 w (List.mem_filter.mpr ⟨hw, ?_⟩))
    show (!goodWord w) = true
    cases hgw : goodWord w
    · rfl
    · exact absurd hgw g
theorem vx_c {args : Array Value} {s : State} {w : Cond} {B : List Cond} (h : w.before args s = true) (t : ∀ w ∈ B, w.before args s = true) : ∀ w' ∈ w :: B, w'.before args s = true := fun w' h' => (List.mem_cons.mp h').elim (fun e => by rw [e]; exact h) (t w')
theorem vx_n {args : Array Value} {s : State} : ∀ w ∈ ([] : List Cond), w.before args s = true := fun _ h => nomatch h
theorem vx_own {args : Array Value} {s : State} {L : List Cond} (h1 : ∀ w ∈ L.filter vx_no, w.before args s = true)
    (hU : (Cond.isRef (.static Bundle.tN "UNASSIGNED_STACK" Bundle.steD)).before args s = true) (hN : (Cond.isRef (.static Bundle.tN "SUPPRESSED_SENTINEL" Bundle.listD)).before args s = true)
    (lU : (Cond.laysStatic Bundle.tN "UNASSIGNED_STACK" Bundle.steD).before args s = true) (lN : (Cond.laysStatic Bundle.tN "SUPPRESSED_SENTINEL" Bundle.listD).before args s = true) : ∀ w ∈ L, w.before args s = true := by
  intro w hw
  by_cases e1 : w = .isRef (.static Bundle.tN "UNASSIGNED_STACK" Bundle.steD)
  · rw [e1]; exact hU
  · by_cases e2 : w = .isRef (.static Bundle.tN "SUPPRESSED_SENTINEL" Bundle.listD)
    · rw [e2]; exact hN
    · by_cases e3 : w = .laysStatic Bundle.tN "UNASSIGNED_STACK" Bundle.steD
      · rw [e3]; exact lU
      · by_cases e4 : w = .laysStatic Bundle.tN "SUPPRESSED_SENTINEL" Bundle.listD
        · rw [e4]; exact lN
        · exact h1 w (List.mem_filter.mpr ⟨hw, by unfold vx_no; rw [decide_eq_true e1, decide_eq_true e2, decide_eq_true e3, decide_eq_true e4]; rfl⟩)
noncomputable def vx_L (C n d : String) (A : Nat → Prop) (U : State) (H : Heap) : Prop := ∃ (c : ClassId) (k : Class) (i : Nat) (f : Field) (a : Nat) (cell : Cell), U.vm.findClass C = some c ∧ U.fieldFound? C n d = some (c, k, i, f) ∧ f.isStatic = true ∧ k.statics = some a ∧ H[a]? = some cell ∧ cell.vm.isStatics = true ∧ cell.cls = c ∧ f.slot < cell.slots.size ∧ k.staticTypes[f.slot]? = some f.type ∧ ¬ A a
theorem vx_L.moved {C n d : String} {A : Nat → Prop} {u U : State} {H : Heap} (hvm : u.vm.Alike U.vm) (h : vx_L C n d A u H) : vx_L C n d A U H := by
  obtain ⟨c, k, i, f, a, cell, h1, h2, h3, h4, h5, h6, h7, h8, h9, h10⟩ := h
  obtain ⟨k', hi', he⟩ := State.fieldFound?_setVm hvm h2
  exact ⟨c, k', i, f, a, cell, by rw [hvm.findClass]; exact h1, hi', h3, by rw [he]; exact h4, h5, h6, h7, h8, by rw [he]; exact h9, h10⟩
theorem vx_L.kept {C n d : String} {A : Nat → Prop} {U : State} {H H1 : Heap} (h : vx_L C n d A U H) (hq : ∀ a : Nat, a < H.size → ¬ A a → H1[a]? = H[a]?) : vx_L C n d A U H1 := by
  obtain ⟨c, k, i, f, a, cell, h1, h2, h3, h4, h5, h6, h7, h8, h9, h10⟩ := h
  exact ⟨c, k, i, f, a, cell, h1, h2, h3, h4, by rw [hq a (Array.getElem?_eq_some_iff.mp h5).1 h10]; exact h5, h6, h7, h8, h9, h10⟩
theorem vx_L.narrow {C n d : String} {A B : Nat → Prop} {U : State} {H : Heap} (h : vx_L C n d A U H) (hAB : ∀ q, B q → A q) : vx_L C n d B U H := by
  obtain ⟨c, k, i, f, a, cell, h1, h2, h3, h4, h5, h6, h7, h8, h9, h10⟩ := h
  exact ⟨c, k, i, f, a, cell, h1, h2, h3, h4, h5, h6, h7, h8, h9, fun z => h10 (hAB _ z)⟩
theorem vx_L.word {C n d : String} {A : Nat → Prop} {s : State} {args : Array Value} (h : vx_L C n d A s s.heap) : (Cond.laysStatic C n d).before args s = true := by
  obtain ⟨c, k, i, f, a, cell, h1, h2, h3, h4, h5, h6, h7, h8, h9, -⟩ := h
  show (Cond.laysStatic C n d).holds args s none s [] = true
  exact Cond.laysStatic_of h1 h2 h3 h4 h5 h6 h7 h8 h9
noncomputable def vx_Zq (C n d : String) (A : Nat → Prop) (U : State) (H : Heap) : Prop := va_Zq C n d A U H ∧ vx_L C n d A U H
theorem vx_Zq.moved {C n d : String} {A : Nat → Prop} {u U : State} {H : Heap} (hvm : u.vm.Alike U.vm) (h : vx_Zq C n d A u H) : vx_Zq C n d A U H := ⟨va_Zq.moved hvm h.1, vx_L.moved hvm h.2⟩
theorem vx_Zq.kept {C n d : String} {A : Nat → Prop} {U : State} {H H1 : Heap} (h : vx_Zq C n d A U H) (hq : ∀ a : Nat, a < H.size → ¬ A a → H1[a]? = H[a]?) : vx_Zq C n d A U H1 := ⟨va_Zq.kept h.1 hq, vx_L.kept h.2 hq⟩
theorem vx_Zq.narrow {C n d : String} {A B : Nat → Prop} {U : State} {H : Heap} (h : vx_Zq C n d A U H) (hAB : ∀ q, B q → A q) : vx_Zq C n d B U H := ⟨va_Zq.narrow h.1 hAB, vx_L.narrow h.2 hAB⟩
theorem vx_Zqof {args : Array Value} {s : State} {C n d : String} {A : Nat → Prop} (hl : (Cond.laysStatic C n d).before args s = true) (hini : (Cond.initialized C).before args s = true) (h : (Cond.isRef (.static C n d)).before args s = true) (hA : ∀ a : Nat, a < s.heap.size → ¬ A a) : vx_Zq C n d A s s.heap := by
  refine ⟨va_Zqof hl hini h hA, ?_⟩
  obtain ⟨c, k, i, f, a, cell, h1, h2, h3, h4, h5, h6, h7, h8, h9⟩ := Cond.laysStatic_spec hl
  exact ⟨c, k, i, f, a, cell, h1, h2, h3, h4, h5, h6, h7, h8, h9, hA a (Array.getElem?_eq_some_iff.mp h5).1⟩
theorem vx_isRef {C n d : String} {v : Value} {A : Nat → Prop} {s : State} {args : Array Value} (h : va_Z C n d v A s s.heap) (hv : v.isRef = true) : (Cond.isRef (.static C n d)).before args s = true := by
  obtain ⟨cf, kf, fi, f, a, cell, h1, h2, h3, h4, h5, h6, h7, -⟩ := h
  have he : (Term.static C n d).eval args s none [] s = some v := by
    simp [Term.eval, State.fieldNamed?, h1, h2, h4, h5, h6, h7]
  simp only [Cond.before, Cond.holds, Cond.value, he]
  cases v <;> simp_all [Value.isRef]
theorem vx_isRefq {C n d : String} {A : Nat → Prop} {s : State} {args : Array Value} (h : va_Zq C n d A s s.heap) : (Cond.isRef (.static C n d)).before args s = true := by
  rcases h with h | ⟨t, h⟩
  · exact vx_isRef h rfl
  · exact vx_isRef h rfl
theorem vx_rebase {T : State} (X : Stand p l e R s m args below meth c T locs cells slots) {R' : Room} (hf : R'.frames ≤ R.frames) (hl : R'.locals ≤ R.locals) (hc : cells + R'.cells ≤ R.cells) (hs : slots + R'.slots ≤ R.slots) :
    Stand p l e R' ((T.setVm s.vm).setFrames (.invoking m args :: below)) m args below meth c T [] 0 0 := by
  have htop : (T.setVm s.vm).topJava?.isSome := X.here.top
  have hF : ((T.setVm s.vm).setFrames (.invoking m args :: below)).frames = .invoking m args :: below := State.frames_setFrames _ (State.cur_lt_of_top htop)
  obtain ⟨g₀, hg0⟩ := Option.isSome_iff_exists.mp htop
  obtain ⟨r, hr⟩ := State.topJava?_eq_some.mp hg0
  have hl9 : e.platform.stackLimits (T.setVm s.vm).me = e.platform.stackLimits s.me := X.limits
  have hb9 : (T.setVm s.vm).me.stackBytes = s.me.stackBytes := X.bytes
  refine ⟨X.admits, X.cas, X.clock, hF, ?_, X.hears, X.method, X.code, X.here, X.tail, X.warmed, ?_, ?_, ?_⟩
  · have h := X.room
    have hU : ((T.setVm s.vm).setFrames (.invoking m args :: below)).localsInUse = s.localsInUse := by
      rw [State.localsInUse_invoking hF (meth := meth) (c := c) X.method X.code, State.localsInUse_invoking X.frames X.method X.code]
    simp only [State.hasRoom, Bool.and_eq_true, decide_eq_true_eq] at h ⊢
    obtain ⟨⟨⟨⟨h1, h2, h3, h4, h5, h6⟩, h7⟩, h8⟩, h9⟩ := h
    rw [X.frames, List.length_cons] at h2 h3
    have q1 := X.heapSize
    have q2 := X.used
    simp only [hF, hU, List.length_cons, State.stackLimits_setFrames, State.stackBytes_setFrames, hl9, hb9]
    refine ⟨⟨⟨⟨by omega, by omega, by omega, by omega, by omega, h6⟩, ?_⟩, ?_⟩, X.book⟩
    · show T.heap.size + R'.cells ≤ e.platform.maxCells
      omega
    · show T.slotsUsed + R'.slots ≤ e.platform.maxSlots
      omega
  · rw [State.stackLimits_setFrames]; rfl
  · rw [State.stackBytes_setFrames]; rfl
  · refine ⟨?_, Nat.le_refl _, Nat.le_refl _, ?_, ?_, fun a c9 h9 => ⟨c9, h9, rfl, rfl, fun _ _ => rfl⟩⟩
    · obtain ⟨t, ht, -⟩ := State.frames_cons hr
      show T.setVm s.vm = { ((T.setVm s.vm).setFrames (.invoking m args :: below)).setFrames (T.setVm s.vm).frames with heap := T.heap, slotsUsed := T.slotsUsed }
      rw [State.setFrames_setFrames, State.setFrames_self ht]
      rfl
    · show T.slotsUsed = T.slotsUsed + ((T.heap.toList.drop T.heap.size).map (·.slots.size)).sum
      rw [List.drop_eq_nil_of_le (Nat.le_of_eq Array.length_toList)]
      rfl
    · show ((T.heap.toList.drop T.heap.size).map (·.slots.size)).sum ≤ 0
      rw [List.drop_eq_nil_of_le (Nat.le_of_eq Array.length_toList)]
      exact Nat.le_refl _
theorem vx_throwS {cc : ByteArray} {pc : Nat} (hexec : p.tables.exec = Jvm.exec) (hb : c.code = cc) (hl : l.stackTraces = false) {own cls text : String} {names : List String} {ik is ic mc ms sa : Nat} {A : Nat → Prop}
    (hown : s.vm.findClass own = some m.cls) (hcls : Bundle.fit cls = true) (hnames : ∀ n ∈ names, Bundle.fit n = true)
    (hk : (Cond.classLink own ik cls).before args s = true) (hini : (Cond.initialized cls).before args s = true) (hstr : vk_R own is text sa s) (hat : ∀ w ∈ vx_atS own ic cls names, w.before args s = true)
    (hgood : ∀ w ∈ Cond.classLink own ik cls :: Cond.initialized cls :: vx_atS own ic cls names, vx_ot w = true)
    (hU : vx_Zq Bundle.tN "UNASSIGNED_STACK" Bundle.steD A s s.heap) (hN : vx_Zq Bundle.tN "SUPPRESSED_SENTINEL" Bundle.listD A s s.heap) (hS : va_S A s.heap H locs) (hsize : ls.size = c.maxLocals)
    (d0 : decode cc pc = .ok (.new ik, 3)) (d3 : decode cc (pc + 3) = .ok (.dup, 1)) (d4 : decode cc (pc + 4) = .ok (.ldc is, 2)) (d6 : decode cc (pc + 6) = .ok (.invokespecial ic, 3)) (d9 : decode cc (pc + 9) = .ok (.athrow, 1))
    (hout : ∀ x ∈ c.exceptionTable.toList, covers x (pc + 9) = false)
    (hRframes : names.length + 3 < R.frames) (hRlocals : (rest.map fun v => v.category).sum + (13 * (names.length + 1) + 43) ≤ R.locals) (hRcells : cells + 1 ≤ R.cells) (hRslots : slots + 6 ≤ R.slots) (hlocks : meth.locks = false)
    (hx : ∀ t : State, s.vm.Alike t.vm → H.size ≤ t.heap.size → (∀ q : Nat, q < H.size → t.heap[q]? = H[q]?) → XC cls s t)
    (hf : ∀ z ∈ locs, free z.base) (hc : cells + 1 ≤ mc) (hs : slots + 6 ≤ ms) :
    W p l e R s m args below meth c H locs cells slots (vx_MQ below Qc XC args s mc ms free) (F0 m pc ls rest) := by
  intro T hT X
  have htr : e.platform.stackTraces = false := (show e.platform.stackTraces = l.stackTraces by rw [X.admits.platform]).trans hl
  have Y := vx_rebase X (R' := { frames := R.frames, locals := R.locals, cells := 1, slots := 6 }) (Nat.le_refl _) (Nat.le_refl _) hRcells hRslots
  obtain ⟨s', hA⟩ : ∃ z, z = (T.setVm s.vm).setFrames (.invoking m args :: below) := ⟨_, rfl⟩
  rw [← hA] at Y
  have hvm : s'.vm = s.vm := by rw [hA]; rfl
  have hhp : s'.heap = H := by rw [hA]; exact hT
  have hW0 : s.WarmedH s'.vm := by rw [hvm]; exact State.WarmedH.refl s
  have hat' : ∀ w ∈ vx_atS own ic cls names, w.before args s' = true := fun w hw => vx_ot_at hW0 hvm.symm (hgood w (List.mem_cons_of_mem _ (List.mem_cons_of_mem _ hw))) (hat w hw)
  have hk' : (Cond.classLink own ik cls).before args s' = true := vx_ot_at hW0 hvm.symm (hgood _ List.mem_cons_self) hk
  have hini' : (Cond.initialized cls).before args s' = true := vx_ot_at hW0 hvm.symm (hgood _ (List.mem_cons_of_mem _ List.mem_cons_self)) hini
  have hU' : vx_Zq Bundle.tN "UNASSIGNED_STACK" Bundle.steD A s' s'.heap := by rw [hhp]; exact vx_Zq.moved hW0.alike (hU.kept hS.2.1)
  have hN' : vx_Zq Bundle.tN "SUPPRESSED_SENTINEL" Bundle.listD A s' s'.heap := by rw [hhp]; exact vx_Zq.moved hW0.alike (hN.kept hS.2.1)
  have h : ∀ w ∈ Bundle.ownAtoms own ic cls names, w.before args s' = true := vx_own hat' (vx_isRefq hU'.1) (vx_isRefq hN'.1) hU'.2.word hN'.2.word
  have hown' : s'.vm.findClass own = some m.cls := by rw [hvm]; exact hown
  have hins : (Cond.instantiable cls 6).before args s' = true := h _ (by simp [Bundle.ownAtoms])
  obtain ⟨vm₁, cX, kX, hfX, hkX, -, -, X₁, st1⟩ := Y.newCold hexec (own := own) (C := cls) (index := ik) (n := 6) hown' hk' hins hini'
    (g := F0 m pc ls rest) rfl (by rw [hb]; exact d0) (Nat.le_refl _) (Nat.le_refl _)
  generalize hT1 : (T.setVm vm₁).pushCell { cls := cX, slots := kX.instanceTypes.map defaultValue, vm := .none } = T1 at X₁ st1
  have hcat : (Value.ref T.heap.size).category = 1 := rfl
  have hcellA : T1.heap[T.heap.size]? = some (freshCell cX kX) := by rw [← hT1]; exact State.heap_pushCell_size _ _
  have d3' : decode c.code (pc + 3) = .ok (.dup, 1) := by rw [hb]; exact d3
  have d4' : decode c.code (pc + 4) = .ok (.ldc is, 2) := by rw [hb]; exact d4
  have hstr' : vk_R own is text sa s' := vk_R.warm hW0 hstr
  obtain ⟨U, hsteps, hrun, hend, hW, hsame, ce, hce, hO⟩ := X₁.ctorThrowS hexec htr (own := own) (cls := cls) (names := names) (ic := ic) hown' hcls hnames h (fun x hx => nomatch hx) hfX hkX hcellA (by rw [hhp, hT]; exact Nat.le_refl _) (msg := .ref sa) rfl
    (g := { method := m, pc := pc + 6, locals := ls, stack := .ref sa :: .ref T.heap.size :: .ref T.heap.size :: rest, locked := none }) rfl hsize rfl rfl (rest := rest) rfl
    (by rw [hb]; exact d6) (by rw [hb]; exact d9) hout hRframes (by simp only [List.map_cons, List.sum_cons, hcat]; omega) hlocks
  obtain ⟨f1, f2⟩ := vx_frame hsame
  rw [hhp] at f1 f2
  have hWs : s.WarmedH U.vm := State.WarmedH.trans hW0 hW
  have hcl : s.vm.findClass cls = some ce.cls := by
    have h9 := hO.cls
    rw [hvm] at h9
    exact h9
  have hall : s.sameButNew ({ U with vm := s.vm } : State) locs mc ms := by
    subst hA
    obtain ⟨e1, e2⟩ := hsame
    rw [State.setFrames_setFrames] at e1
    have h2 : (T.setVm s.vm).sameButNew ({ U with vm := s.vm } : State) [] (0 + 1) (0 + 6) := ⟨e1, e2⟩
    have h3 := X.same.trans h2
    rw [List.append_nil] at h3
    exact h3.mono hc hs
  refine ⟨U, ?_, .threw T.heap.size, hrun, hend, Or.inr ⟨T.heap.size, rfl, cls, ce, locs, hx U hWs.alike f1 (fun q hq => f2 q hq (fun z hz => nomatch hz)), hce, hO.vm, hcl, hWs, hall, hf⟩⟩
  refine st1 _ ?_
  show Steps p.tables e below (T1.setTop { method := m, pc := pc + 3, locals := ls, stack := .ref T.heap.size :: rest, locked := none }) _
  jvm_step X₁.here [X₁.here.top, hexec, d3', Value.category]
  exact X₁.ldcString hexec (own := own) (text := text) (index := is) (a := sa) hown' hstr'.1 hstr'.2
    (g := { method := m, pc := pc + 4, locals := ls, stack := .ref T.heap.size :: .ref T.heap.size :: rest, locked := none }) rfl d4' _ hsteps
theorem vx_throwSW {cc : ByteArray} {pc : Nat} (hexec : p.tables.exec = Jvm.exec) (hb : c.code = cc) (hl : l.stackTraces = false) {own cls text : String} {names : List String} {ik is ic mc ms sa : Nat} {A : Nat → Prop}
    (hown : s.vm.findClass own = some m.cls) (hcls : Bundle.fit cls = true) (hnames : ∀ n ∈ names, Bundle.fit n = true)
    (hk : (Cond.classLink own ik cls).before args s = true) (hini : (Cond.initialized cls).before args s = true) (hstr : vk_R own is text sa s) (hat : ∀ w ∈ vx_atS own ic cls names, w.before args s = true)
    (hgood : ∀ w ∈ Cond.classLink own ik cls :: Cond.initialized cls :: vx_atS own ic cls names, vx_ot w = true)
    (hU : vx_Zq Bundle.tN "UNASSIGNED_STACK" Bundle.steD A s s.heap) (hN : vx_Zq Bundle.tN "SUPPRESSED_SENTINEL" Bundle.listD A s s.heap) (hS : va_S A s.heap H locs) (hsize : ls.size = c.maxLocals)
    (d0 : decode cc pc = .ok (.new ik, 3)) (d3 : decode cc (pc + 3) = .ok (.dup, 1)) (d4 : decode cc (pc + 4) = .ok (.ldc_w is, 3)) (d7 : decode cc (pc + 7) = .ok (.invokespecial ic, 3)) (d10 : decode cc (pc + 10) = .ok (.athrow, 1))
    (hout : ∀ x ∈ c.exceptionTable.toList, covers x (pc + 10) = false)
    (hRframes : names.length + 3 < R.frames) (hRlocals : (rest.map fun v => v.category).sum + (13 * (names.length + 1) + 43) ≤ R.locals) (hRcells : cells + 1 ≤ R.cells) (hRslots : slots + 6 ≤ R.slots) (hlocks : meth.locks = false)
    (hx : ∀ t : State, s.vm.Alike t.vm → H.size ≤ t.heap.size → (∀ q : Nat, q < H.size → t.heap[q]? = H[q]?) → XC cls s t)
    (hf : ∀ z ∈ locs, free z.base) (hc : cells + 1 ≤ mc) (hs : slots + 6 ≤ ms) :
    W p l e R s m args below meth c H locs cells slots (vx_MQ below Qc XC args s mc ms free) (F0 m pc ls rest) := by
  intro T hT X
  have htr : e.platform.stackTraces = false := (show e.platform.stackTraces = l.stackTraces by rw [X.admits.platform]).trans hl
  have Y := vx_rebase X (R' := { frames := R.frames, locals := R.locals, cells := 1, slots := 6 }) (Nat.le_refl _) (Nat.le_refl _) hRcells hRslots
  obtain ⟨s', hA⟩ : ∃ z, z = (T.setVm s.vm).setFrames (.invoking m args :: below) := ⟨_, rfl⟩
  rw [← hA] at Y
  have hvm : s'.vm = s.vm := by rw [hA]; rfl
  have hhp : s'.heap = H := by rw [hA]; exact hT
  have hW0 : s.WarmedH s'.vm := by rw [hvm]; exact State.WarmedH.refl s
  have hat' : ∀ w ∈ vx_atS own ic cls names, w.before args s' = true := fun w hw => vx_ot_at hW0 hvm.symm (hgood w (List.mem_cons_of_mem _ (List.mem_cons_of_mem _ hw))) (hat w hw)
  have hk' : (Cond.classLink own ik cls).before args s' = true := vx_ot_at hW0 hvm.symm (hgood _ List.mem_cons_self) hk
  have hini' : (Cond.initialized cls).before args s' = true := vx_ot_at hW0 hvm.symm (hgood _ (List.mem_cons_of_mem _ List.mem_cons_self)) hini
  have hU' : vx_Zq Bundle.tN "UNASSIGNED_STACK" Bundle.steD A s' s'.heap := by rw [hhp]; exact vx_Zq.moved hW0.alike (hU.kept hS.2.1)
  have hN' : vx_Zq Bundle.tN "SUPPRESSED_SENTINEL" Bundle.listD A s' s'.heap := by rw [hhp]; exact vx_Zq.moved hW0.alike (hN.kept hS.2.1)
  have h : ∀ w ∈ Bundle.ownAtoms own ic cls names, w.before args s' = true := vx_own hat' (vx_isRefq hU'.1) (vx_isRefq hN'.1) hU'.2.word hN'.2.word
  have hown' : s'.vm.findClass own = some m.cls := by rw [hvm]; exact hown
  have hins : (Cond.instantiable cls 6).before args s' = true := h _ (by simp [Bundle.ownAtoms])
  obtain ⟨vm₁, cX, kX, hfX, hkX, -, -, X₁, st1⟩ := Y.newCold hexec (own := own) (C := cls) (index := ik) (n := 6) hown' hk' hins hini'
    (g := F0 m pc ls rest) rfl (by rw [hb]; exact d0) (Nat.le_refl _) (Nat.le_refl _)
  generalize hT1 : (T.setVm vm₁).pushCell { cls := cX, slots := kX.instanceTypes.map defaultValue, vm := .none } = T1 at X₁ st1
  have hcat : (Value.ref T.heap.size).category = 1 := rfl
  have hcellA : T1.heap[T.heap.size]? = some (freshCell cX kX) := by rw [← hT1]; exact State.heap_pushCell_size _ _
  have d3' : decode c.code (pc + 3) = .ok (.dup, 1) := by rw [hb]; exact d3
  have d4' : decode c.code (pc + 4) = .ok (.ldc_w is, 3) := by rw [hb]; exact d4
  have hstr' : vk_R own is text sa s' := vk_R.warm hW0 hstr
  obtain ⟨U, hsteps, hrun, hend, hW, hsame, ce, hce, hO⟩ := X₁.ctorThrowS hexec htr (own := own) (cls := cls) (names := names) (ic := ic) hown' hcls hnames h (fun x hx => nomatch hx) hfX hkX hcellA (by rw [hhp, hT]; exact Nat.le_refl _) (msg := .ref sa) rfl
    (g := { method := m, pc := pc + 7, locals := ls, stack := .ref sa :: .ref T.heap.size :: .ref T.heap.size :: rest, locked := none }) rfl hsize rfl rfl (rest := rest) rfl
    (by rw [hb]; exact d7) (by rw [hb]; exact d10) hout hRframes (by simp only [List.map_cons, List.sum_cons, hcat]; omega) hlocks
  obtain ⟨f1, f2⟩ := vx_frame hsame
  rw [hhp] at f1 f2
  have hWs : s.WarmedH U.vm := State.WarmedH.trans hW0 hW
  have hcl : s.vm.findClass cls = some ce.cls := by
    have h9 := hO.cls
    rw [hvm] at h9
    exact h9
  have hall : s.sameButNew ({ U with vm := s.vm } : State) locs mc ms := by
    subst hA
    obtain ⟨e1, e2⟩ := hsame
    rw [State.setFrames_setFrames] at e1
    have h2 : (T.setVm s.vm).sameButNew ({ U with vm := s.vm } : State) [] (0 + 1) (0 + 6) := ⟨e1, e2⟩
    have h3 := X.same.trans h2
    rw [List.append_nil] at h3
    exact h3.mono hc hs
  refine ⟨U, ?_, .threw T.heap.size, hrun, hend, Or.inr ⟨T.heap.size, rfl, cls, ce, locs, hx U hWs.alike f1 (fun q hq => f2 q hq (fun z hz => nomatch hz)), hce, hO.vm, hcl, hWs, hall, hf⟩⟩
  refine st1 _ ?_
  show Steps p.tables e below (T1.setTop { method := m, pc := pc + 3, locals := ls, stack := .ref T.heap.size :: rest, locked := none }) _
  jvm_step X₁.here [X₁.here.top, hexec, d3', Value.category]
  exact X₁.ldcStringW hexec (own := own) (text := text) (index := is) (a := sa) hown' hstr'.1 hstr'.2
    (g := { method := m, pc := pc + 4, locals := ls, stack := .ref T.heap.size :: .ref T.heap.size :: rest, locked := none }) rfl d4' _ hsteps
end Ends
section Bodies
variable {l : Launch}
theorem vx_ofW {y : MethodName} {ws ws' : List Cond} {rm : Room} {Pc : Array Value → State → Prop} {Qc : Array Value → State → Outcome → State → Prop} {XC : String → State → State → Prop} {mc ms : Nat} {free : Addr → Prop} {cc : ByteArray} {maxL : Nat} {ret : Option FieldType}
    (hy : plainName y.cls = true) (hw : ws = Cond.code y cc maxL ret :: ws')
    (body : ∀ p e s m args below meth c s₁, BodyLoose p l y (headSpec ws rm) cc maxL ret e s m args below meth c s₁ → c.maxLocals = maxL → (∀ x ∈ c.exceptionTable.toList, False) → Pc args s →
      W p l e (headSpec ws rm).room s m args below meth c s.heap [] 0 0 (vx_MQ below Qc XC args s mc ms free) (entryFrame m args maxL)) : vx_Met l y ws rm Pc Qc XC mc ms free := by
  refine MetFree.of_bodyS (code := cc) (maxLocals := maxL) (ret := ret) hy ?_ ?_
  · intro args s m h hn
    obtain ⟨meth, c, h1, h2, h3, h4, h5, h6, -, -⟩ := Cond.code_spec hn (atoms_spec (ws := ws) h _ (by rw [hw]; exact List.mem_cons_self))
    exact ⟨meth, c, h1, h2, h3, h4, h5, h6⟩
  · intro p e s m args below meth c s₁ B hml hP _
    have hh0 : s₁.heap = s.heap := by rw [B.state]; rfl
    have ht : ∀ x ∈ c.exceptionTable.toList, False := by
      obtain ⟨meth9, c9, h1, h2, -, -, -, -, h7, -⟩ := Cond.code_spec B.named (atoms_spec (ws := ws) B.pre _ (by rw [hw]; exact List.mem_cons_self))
      cases Option.some.inj (h1.symm.trans B.method)
      cases Option.some.inj (h2.symm.trans (Stand.of_body B).code)
      intro x hx
      rw [Array.isEmpty_iff.mp h7] at hx
      cases hx
    obtain ⟨t, a1, o, b1, b2, b3⟩ := body p e s m args below meth c s₁ B hml ht hP s₁ hh0 (Stand.of_body B)
    exact ⟨t, o, a1, b1, b2, b3⟩
theorem vx_table {p : Program} {x y : MethodName} {S : Spec} {cc bytes : ByteArray} {maxL maxL' : Nat} {ret ret' : Option FieldType} {e : Env} {s s₁ : State} {m : MethodId} {args : Array Value} {below : List Frame} {meth : Method} {c : Code} {hh : List (Nat × Nat × Nat × Nat)}
    (B : BodyLoose p l y S cc maxL ret e s m args below meth c s₁) (h : (Cond.codeWith y bytes maxL' ret' hh).before args s = true) : c.exceptionTable.toList = tableOf hh := by
  obtain ⟨m9, meth9, c9, hn9, h1, h2, -, -, h6, -⟩ := Cond.codeWith_spec h
  cases Option.some.inj (hn9.symm.trans B.named)
  cases Option.some.inj (h1.symm.trans B.method)
  cases Option.some.inj (h2.symm.trans (Stand.of_body B).code)
  rw [← h6, table_eq]
end Bodies
end VXA
section VXS
variable {p : Program} {l : Launch} {e : Env} {R : Room} {s : State} {m : MethodId} {args : Array Value} {below : List Frame} {meth : Method} {c : Code} {T : State} {H : Heap} {locs : List Loc} {cells slots : Nat}
noncomputable abbrev vx_CSW (R : Room) (s : State) (args : Array Value) (own : String) (index : Nat) (y : MethodName) (bytes : ByteArray) (maxL : Nat) (ret : Option FieldType) (hh : List (Nat × Nat × Nat × Nat)) (ws : List Cond) (rm : Room) (mc ms n : Nat) : Prop :=
  (rm.cells = mc ∧ rm.slots = ms ∧ rm.frames + 1 ≤ R.frames ∧ 8 + (maxL + 11) + rm.locals ≤ R.locals ∧ (∀ w ∈ ws, ∀ (a' : Array Value) (U : State), s.WarmedH U.vm → w.before a' U = true) ∧ Cond.codeWith y bytes maxL ret hh ∈ ws) ∧
  (Cond.codeWith y bytes maxL ret hh).before args s = true ∧ (Cond.initialized y.cls).before args s = true ∧ (y.cls ≠ "java/lang/invoke/MethodHandle" ∧ y.cls ≠ "java/lang/invoke/VarHandle") ∧
  (∀ sig, parseMethodDescriptor y.desc = some sig → n = sig.parameters.length) ∧ (Cond.methodLink own index y).before args s = true ∧ (Cond.static y).before args s = true
theorem vx_cwSW {own : String} {index maxL mc ms : Nat} {y : MethodName} {bytes : ByteArray} {ret : Option FieldType} {hh : List (Nat × Nat × Nat × Nat)} {Ts ws ws' : List Cond} {rm : Room} (n : Nat) (ht : ∀ w ∈ Ts, w.before args s = true) (hT : GoodIn Ts (va_wsS own index y ws)) (hw : ws = Cond.codeWith y bytes maxL ret hh :: ws') (hrc : rm.cells = mc) (hrs : rm.slots = ms)
    (hd : y.cls ≠ "java/lang/invoke/MethodHandle" ∧ y.cls ≠ "java/lang/invoke/VarHandle" ∧ (parseMethodDescriptor y.desc).map (fun d => d.parameters.length) = some n) (hR : rm.frames + 1 ≤ R.frames ∧ 8 + (maxL + 11) + rm.locals ≤ R.locals) :
    vx_CSW R s args own index y bytes maxL ret hh ws rm mc ms n := by
  have ok : ∀ w ∈ va_wsS own index y ws, w.before args s = true := fun w h => ht w (hT w h).1
  have hG : GoodIn Ts ws := fun w h => hT w (by unfold va_wsS; exact List.mem_append_right _ h)
  have hc : Cond.codeWith y bytes maxL ret hh ∈ ws := by rw [hw]; exact List.mem_cons_self
  refine ⟨⟨hrc, hrs, hR.1, hR.2, pay_in ht hG, hc⟩, ht _ (hG _ hc).1, ok _ (by simp [va_wsS]), ⟨hd.1, hd.2.1⟩, fun sig h => ?_, ok _ (by simp [va_wsS]), ok _ (by simp [va_wsS])⟩
  have h2 := hd.2.2
  rw [h] at h2
  exact (Option.some.inj h2).symm
end VXS
section VXH
section
variable {l : Launch} {R : Room} {p : Program} {e : Env} {below : List Frame} {s : State} {sargs : Array Value} {y : MethodName} {len W9 : Nat}
theorem vx_backW {ws : List Cond} {rm : Room} {Pc : Array Value → State → Prop} {Qc : Array Value → State → Outcome → State → Prop} {XC : String → State → State → Prop} {mc ms : Nat} {free : Addr → Prop} {bytes : ByteArray} {maxL : Nat} {ret : Option FieldType} {hh : List (Nat × Nat × Nat × Nat)}
    (hM : vx_Met l y ws rm Pc Qc XC mc ms free) (hblind : FrameBlind Pc) (hrc : rm.cells = mc) (hrs : rm.slots = ms)
    (hframes : rm.frames + 1 ≤ R.frames) (hlocals : W9 + (maxL + 11) + rm.locals ≤ R.locals)
    (hws : ∀ w ∈ ws, ∀ a' U, s.WarmedH U.vm → w.before a' U = true) (hcode : Cond.codeWith y bytes maxL ret hh ∈ ws) (hinit : ∀ a' U, s.WarmedH U.vm → (Cond.initialized y.cls).before a' U = true) :
    vx_Back l R p e below s sargs y len W9 (PreOf R mc ms Pc) (PostOf Qc mc ms free) (vx_Post XC mc ms free) := by
  intro m meth c A g ig mk a X hg hsize hdg hW hn hp
  have h1 : (headSpec ws rm).pre.before a A.U = true := atoms_intro fun w hw => hws w hw _ _ X.warmed
  have h2 : (Cond.codeWith y bytes maxL ret hh).before a A.U = true := hws _ hcode _ _ X.warmed
  have h3 : (Cond.initialized y.cls).before a A.U = true := hinit _ _ X.warmed
  have h4 : A.cells + (headSpec ws rm).room.cells ≤ R.cells := by rw [show (headSpec ws rm).room.cells = mc from hrc]; exact hp.1
  have h5 : A.slots + (headSpec ws rm).room.slots ≤ R.slots := by rw [show (headSpec ws rm).room.slots = ms from hrs]; exact hp.2.1
  have hPc : Pc a (A.U.calling g mk a) := hblind _ _ _ _ hp.2.2
  obtain ⟨U, Ls, c0, s0⟩ := A
  dsimp only [Pt.U, Pt.locs, Pt.cells, Pt.slots] at h1 h2 h3 h4 h5 X hn hPc ⊢
  obtain ⟨m9, methY, cY, hn9, hmY, hcY, -, hlY, -⟩ := Cond.codeWith_spec h2
  cases Option.some.inj (hn9.symm.trans hn)
  obtain ⟨kY, hkY, -⟩ := className_of_methodNamed hn
  have hinitY : kY.init = .initialized := Cond.initialized_spec (findClass_of_methodNamed hn) hkY h3
  have h : At U g.method c below := by rw [hg]; exact X.here
  have hlocals9 : W9 + (maxL + 11) + (headSpec ws rm).room.locals ≤ R.locals := hlocals
  have happ : (headSpec ws rm).appliesLoose y e.platform (U.calling g mk a) = true :=
    Spec.appliesLoose_calling (g := g) h hdg hn hkY hinitY
      (X.room_calling (g := g) (R' := (headSpec ws rm).room) hsize hmY hcY hframes (by rw [hlY]; omega) h4 h5) h1
  obtain ⟨mid, hmid⟩ := h.above
  have hfr : (U.setTop g).frames = (.java g :: mid) ++ below := by rw [State.frames_setTop' g h.top, hmid]; rfl
  obtain ⟨o, s₂, hsteps, -, hend, hq⟩ := Steps.callFree hM p X.admits X.cas X.clock (acts := []) hfr happ hPc trivial
  have hq' : vx_Q Qc XC mc ms free a (U.calling g mk a) o s₂ := hq
  rw [State.frames_setTop' g h.top] at hend
  obtain ⟨g₀, hg0⟩ := Option.isSome_iff_exists.mp h.top
  obtain ⟨r, hr⟩ := State.topJava?_eq_some.mp hg0
  have hr' : (({ U with heap := s₂.heap, slotsUsed := s₂.slotsUsed } : State).setVm s₂.vm).frames = .java g₀ :: r := hr
  rcases hq' with ⟨hqc, L, hfe, hL⟩ | ⟨q, rfl, E, ce, L, hx, hce, hcv, hcl, hW₂, hsm, hL⟩
  · obtain ⟨⟨v, rfl⟩, hW₂, e2, q2, q3, q4, q5, q6⟩ := id hfe
    have e3 : s₂ = ({ (U.calling g mk a).setFrames s₂.frames with heap := s₂.heap, slotsUsed := s₂.slotsUsed } : State).setVm s₂.vm := by
      have : s₂ = ({ s₂ with vm := (U.calling g mk a).vm } : State).setVm s₂.vm := rfl
      rw [e2] at this
      exact this
    obtain ⟨c₂, i₂, len₂, hc₂, hd₂, hf₂⟩ := hend
    have hW' : U.WarmedH s₂.vm := hW₂
    have hcc : c₂ = c := by
      have h1 : s₂.code? g.method = U.code? g.method := by
        rw [State.code?_eq, State.code?_eq, hW'.alike.method?]
      exact Option.some.inj (hc₂.symm.trans (h1.trans h.code))
    subst hcc
    have hlen : len₂ = len := by rw [hdg] at hd₂; cases hd₂; rfl
    subst hlen
    have hs₂ : s₂ = (({ U with heap := s₂.heap, slotsUsed := s₂.slotsUsed } : State).setVm s₂.vm).setTop { g with pc := g.pc + len₂, stack := v.toList ++ g.stack } := by
      refine e3.trans ?_
      rw [hf₂, State.calling_eq h.top, State.setFrames_setFrames, State.setTop_of_frames _ hr', hr]
      rfl
    have hsame : U.sameButNew ({ U with heap := s₂.heap, slotsUsed := s₂.slotsUsed } : State) L mc ms := by
      refine ⟨?_, q2, q3, q4, q5, q6⟩
      obtain ⟨t, ht, -⟩ := State.frames_cons hr
      show ({ U with heap := s₂.heap, slotsUsed := s₂.slotsUsed } : State) = { U.setFrames U.frames with heap := s₂.heap, slotsUsed := s₂.slotsUsed }
      rw [State.setFrames_self ht]
    subst hg
    refine Or.inl ⟨v, ⟨(({ U with heap := s₂.heap, slotsUsed := s₂.slotsUsed } : State).setVm s₂.vm), Ls ++ L, c0 + mc, s0 + ms⟩,
      ⟨X.admits, X.cas, X.clock, X.frames, X.room, X.hears, X.method, X.code, (X.here.setHeapUsed s₂.heap s₂.slotsUsed).setVm hW'.alike, X.tail, State.WarmedH.trans X.warmed hW', X.limits, X.bytes, X.same.trans (hsame.setVm s.vm)⟩,
      ⟨g, mk, s₂, L, rfl, rfl, hqc, rfl, hL, rfl, rfl⟩, ?_⟩
    show Steps p.tables e below _ ((({ U with heap := s₂.heap, slotsUsed := s₂.slotsUsed } : State).setVm s₂.vm).setTop { g with pc := g.pc + len₂, stack := v.toList ++ g.stack })
    rw [← hs₂]
    exact hsteps
  · obtain ⟨e2, q2, q3, q4, q5, q6⟩ := id hsm
    have e3 : s₂ = ({ (U.calling g mk a).setFrames s₂.frames with heap := s₂.heap, slotsUsed := s₂.slotsUsed } : State).setVm s₂.vm := by
      have : s₂ = ({ s₂ with vm := (U.calling g mk a).vm } : State).setVm s₂.vm := rfl
      rw [e2] at this
      exact this
    have hf₂ : s₂.frames = .throwing q :: .java g :: U.frames.tail := hend
    have hW' : U.WarmedH s₂.vm := hW₂
    have hs₂ : s₂ = ((({ U with heap := s₂.heap, slotsUsed := s₂.slotsUsed } : State).setVm s₂.vm).setTop g).pushFrame (.throwing q) := by
      refine e3.trans ?_
      rw [hf₂, State.calling_eq h.top, State.setFrames_setFrames, State.pushFrame, State.frames_setTop _ hr', State.setTop_of_frames _ hr', State.setFrames_setFrames, hr]
      rfl
    have hsame : U.sameButNew ({ U with heap := s₂.heap, slotsUsed := s₂.slotsUsed } : State) L mc ms := by
      refine ⟨?_, q2, q3, q4, q5, q6⟩
      obtain ⟨t, ht, -⟩ := State.frames_cons hr
      show ({ U with heap := s₂.heap, slotsUsed := s₂.slotsUsed } : State) = { U.setFrames U.frames with heap := s₂.heap, slotsUsed := s₂.slotsUsed }
      rw [State.setFrames_self ht]
    subst hg
    refine Or.inr ⟨q, ⟨(({ U with heap := s₂.heap, slotsUsed := s₂.slotsUsed } : State).setVm s₂.vm), Ls ++ L, c0 + mc, s0 + ms⟩,
      ⟨X.admits, X.cas, X.clock, X.frames, X.room, X.hears, X.method, X.code, (X.here.setHeapUsed s₂.heap s₂.slotsUsed).setVm hW'.alike, X.tail, State.WarmedH.trans X.warmed hW', X.limits, X.bytes, X.same.trans (hsame.setVm s.vm)⟩,
      ⟨g, mk, s₂, L, E, ce, rfl, rfl, hx, hce, hcv, hcl, rfl, hL, rfl, rfl⟩, ?_⟩
    show Steps p.tables e below _ (((({ U with heap := s₂.heap, slotsUsed := s₂.slotsUsed } : State).setVm s₂.vm).setTop g).pushFrame (.throwing q))
    rw [← hs₂]
    exact hsteps
end
variable {p : Program} {l : Launch} {e : Env} {R : Room} {s : State} {m : MethodId} {args : Array Value} {below : List Frame} {meth : Method} {c : Code} {T : State} {H : Heap} {locs : List Loc} {cells slots : Nat}
theorem vx_callSX (X : Stand p l e R s m args below meth c T locs cells slots) (hexec : p.tables.exec = Jvm.exec) {own : String} {index : Nat} {y : MethodName} {bytes : ByteArray} {maxL : Nat} {ret : Option FieldType} {hh : List (Nat × Nat × Nat × Nat)}
    (hown : s.vm.findClass own = some m.cls) (hlink : (Cond.methodLink own index y).before args s = true) (hstat : (Cond.static y).before args s = true) (hinit : (Cond.initialized y.cls).before args s = true)
    (hcode : (Cond.codeWith y bytes maxL ret hh).before args s = true) (hy : y.cls ≠ "java/lang/invoke/MethodHandle" ∧ y.cls ≠ "java/lang/invoke/VarHandle")
    {W9 : Nat} {Pre : Pt → Array Value → Prop} {Post : Pt → Array Value → Option Value → Pt → Prop} {PostX : Pt → Array Value → Addr → Pt → Prop} (hK : vx_Back l R p e below s args y 3 W9 Pre Post PostX)
    {g : JFrame} (hg : g.method = m) (hsize : g.locals.size = c.maxLocals) {argsL rest : List Value} (hlen : ∀ sig, parseMethodDescriptor y.desc = some sig → argsL.length = sig.parameters.length)
    (hstack : g.stack = argsL.reverse ++ rest) (hW : 2 * g.monitorRoom + (rest.map fun v => v.category).sum ≤ W9) (hdg : decode c.code g.pc = .ok (.invokestatic index, 3))
    (hpre : ∀ vm₁, s.WarmedH vm₁ → Pre ⟨T.setVm vm₁, locs, cells, slots⟩ argsL.toArray) :
    (∃ (v : Option Value) (vm₁ : Vm) (B : Pt), s.WarmedH vm₁ ∧ Stand p l e R s m args below meth c B.U B.locs B.cells B.slots ∧ Post ⟨T.setVm vm₁, locs, cells, slots⟩ argsL.toArray v B ∧
      ∀ target, Steps p.tables e below (B.U.setTop { g with pc := g.pc + 3, stack := v.toList ++ rest }) target → Steps p.tables e below (T.setTop g) target) ∨
    (∃ (q : Addr) (vm₁ : Vm) (B : Pt), s.WarmedH vm₁ ∧ Stand p l e R s m args below meth c B.U B.locs B.cells B.slots ∧ PostX ⟨T.setVm vm₁, locs, cells, slots⟩ argsL.toArray q B ∧
      Steps p.tables e below (T.setTop g) ((B.U.setTop { g with stack := rest }).pushFrame (.throwing q))) := by
  obtain ⟨mk, methM, cM, hnamed, hmethM, -, -, -, -, -, -, hsigM⟩ := Cond.codeWith_spec hcode
  have hstatic : methM.isStatic = true := Cond.static_spec hnamed hmethM hstat
  obtain ⟨kP, hkP, -⟩ := className_of_methodNamed hnamed
  have hinitP : kP.init = .initialized := Cond.initialized_spec (findClass_of_methodNamed hnamed) hkP hinit
  obtain ⟨vm₁, X₁, hstep₁⟩ := X.invokestatic hexec hown hlink hnamed hmethM hstatic hkP hinitP hy (g := g) hg (argsL := argsL) (rest := rest) (hlen _ hsigM) hstack hdg
  rcases hK m meth c ⟨T.setVm vm₁, locs, cells, slots⟩ { g with stack := rest } (.invokestatic index) mk argsL.toArray X₁ hg hsize hdg hW (X₁.named hnamed) (hpre vm₁ X₁.warmed) with ⟨v, B, X', hpost, hsteps⟩ | ⟨q, B, X', hpost, hsteps⟩
  · exact Or.inl ⟨v, vm₁, B, X₁.warmed, X', hpost, fun target h => hstep₁ _ fun acts => by rw [doInvoke_state]; exact hsteps.trans h⟩
  · exact Or.inr ⟨q, vm₁, B, X₁.warmed, X', hpost, hstep₁ _ fun acts => by rw [doInvoke_state]; exact hsteps⟩
section
variable {y : MethodName} {bytes cc : ByteArray} {maxL nL mc ms n index : Nat} {ret : Option FieldType} {ws : List Cond} {rm : Room} {Pc : Array Value → State → Prop} {Qc : Array Value → State → Outcome → State → Prop} {XC : String → State → State → Prop} {free : Addr → Prop} {Ts : List Cond} {own C : String} {b : Addr} {As rest : List Value} {g : JFrame}
theorem vx_runSX {hh : List (Nat × Nat × Nat × Nat)} (S : CallFix p m c cc nL s args Ts own) (hM : vx_Met l y ws rm Pc Qc XC mc ms free) (cw : vx_CSW R s args own index y bytes maxL ret hh ws rm mc ms n) (hp : PreS s H Pc As)
    (hg : g.method = m) (hn : As.length = n) (hsize : g.locals.size = nL) (hstack : g.stack = As.reverse ++ rest) (hW : 2 * g.monitorRoom + (rest.map fun v => v.category).sum ≤ 8) (hdg : decode cc g.pc = .ok (.invokestatic index, 3)) (hf : cells + mc ≤ R.cells ∧ slots + ms ≤ R.slots) :
    vx_Run p l e R s m args below meth c H locs cells slots mc ms g rest (Qc As.toArray) XC free := by
  obtain ⟨⟨hrc, hrs, hfr, hlo, hws, hcw⟩, hcode, hini, hy, hlen, hl, hstt⟩ := cw
  have hK : vx_Back l R p e below s args y 3 8 (PreOf R mc ms Pc) (PostOf Qc mc ms free) (vx_Post XC mc ms free) := vx_backW (hh := hh) (bytes := bytes) (maxL := maxL) (ret := ret) hM hp.1 hrc hrs hfr hlo hws hcw (fun a' U hW => word_at hW (Or.inl (by first | rfl | simp [Cond.onTables, Cond.keeps, Cond.steady])) hini)
  obtain ⟨hx, hb, hml, ho, -⟩ := S
  intro T hT X
  rcases vx_callSX X hx (hh := hh) (bytes := bytes) (maxL := maxL) (ret := ret) ho hl hstt hini hcode hy hK hg (hsize.trans hml.symm) (argsL := As) (rest := rest) (fun sig h => hn.trans (hlen sig h)) hstack hW (by rw [hb]; exact hdg)
    (fun vm₁ hW₁ => ⟨hf.1, hf.2, hp.2 (T.setVm vm₁) hT hW₁⟩) with ⟨v, vm₁, ⟨U', l2, c2, s2⟩, hW₁, X', ⟨g', mk, t, L, e1, e2, hq, h1, hL, h2, h3⟩, st⟩ | ⟨q, vm₁, ⟨U', l2, c2, s2⟩, hW₁, X', ⟨g', mk, t, L, E, ce, e1, e2, hq, hce, hcv, hcl, h1, hL, h2, h3⟩, st⟩
  · dsimp only [Pt.U, Pt.locs, Pt.cells, Pt.slots] at X' e1 e2 h1 h2 h3 st
    subst h1; subst h2; subst h3
    exact Or.inl ⟨v, (T.setVm vm₁).calling g' mk As.toArray, t, U', L, hT, X', hL, e1, e2, hq, st⟩
  · dsimp only [Pt.U, Pt.locs, Pt.cells, Pt.slots] at X' e1 e2 h1 h2 h3 st hcl
    subst h1; subst h2; subst h3
    exact Or.inr ⟨q, (T.setVm vm₁).calling g' mk As.toArray, t, U', L, E, ce, hT, X', hL, e1, e2, hq, hce, hcv, vx_cls hW₁ hcl, st⟩
end
end VXH
theorem vx_ofWH {l : Launch} {y : MethodName} {ws ws' : List Cond} {rm : Room} {Pc : Array Value → State → Prop} {Qc : Array Value → State → Outcome → State → Prop} {XC : String → State → State → Prop} {mc ms : Nat} {free : Addr → Prop} {cc : ByteArray} {maxL : Nat} {ret : Option FieldType} {hh : List (Nat × Nat × Nat × Nat)}
    (hy : plainName y.cls = true) (hw : ws = Cond.codeWith y cc maxL ret hh :: ws')
    (body : ∀ p e s m args below meth c s₁, BodyLoose p l y (headSpec ws rm) cc maxL ret e s m args below meth c s₁ → c.maxLocals = maxL → Pc args s →
      W p l e (headSpec ws rm).room s m args below meth c s.heap [] 0 0 (vx_MQ below Qc XC args s mc ms free) (entryFrame m args maxL)) : vx_Met l y ws rm Pc Qc XC mc ms free := by
  refine MetFree.of_bodyS (code := cc) (maxLocals := maxL) (ret := ret) hy ?_ ?_
  · intro args s m h hn
    obtain ⟨m9, meth, c, hn9, h1, h2, h3, h4, -, h5, h6, -⟩ := Cond.codeWith_spec (atoms_spec (ws := ws) h _ (by rw [hw]; exact List.mem_cons_self))
    cases hn.symm.trans hn9
    exact ⟨meth, c, h1, h2, h3, h4, h5, h6⟩
  · intro p e s m args below meth c s₁ B hml hP _
    have hh0 : s₁.heap = s.heap := by rw [B.state]; rfl
    obtain ⟨t, a1, o, b1, b2, b3⟩ := body p e s m args below meth c s₁ B hml hP s₁ hh0 (Stand.of_body B)
    exact ⟨t, o, a1, b1, b2, b3⟩
noncomputable def RX0 : String := "CardLine$1"
noncomputable def RX1 : String := "CardLine$Card"
noncomputable def TX1 : u_T := fun k => match k with
  | 0 => ("CardLine$Card", "lot", "I", false)
  | 1 => ("CardLine$Card", "place", "I", false)
  | 2 => ("CardLine$Card", "text", "[B", false)
  | 3 => ("CardLine$Card", "state", "I", false)
  | 4 => ("CardLine$Card", "station", "I", false)
  | 5 => ("CardLine$Card", "fails", "I", false)
  | 6 => ("CardLine$Card", "scraps", "I", false)
  | 7 => ("CardLine$Card", "leftTime", "I", false)
  | _ => ("CardLine$Card", "rushed", "Z", false)
noncomputable def tyX1 : Nat → FieldType := fun k => match k with
  | 0 => .int
  | 1 => .int
  | 2 => .array .byte
  | 3 => .int
  | 4 => .int
  | 5 => .int
  | 6 => .int
  | 7 => .int
  | _ => .boolean
noncomputable abbrev wsX10 : List Cond := u_ws RX1 TX1 9
theorem nmX1 : ∀ a, a < 9 → ∀ b, b < 9 → a ≠ b → (TX1 a).2.1 ≠ (TX1 b).2.1 := by decide +kernel
theorem tyX1_ok : ∀ k, k < 9 → parseFieldDescriptor (TX1 k).2.2.1 = some (tyX1 k) := by decide +kernel
noncomputable abbrev cX1_init : ByteArray := prog_3_method_1_code
noncomputable def yX1_init : MethodName := ⟨RX1, "<init>", "()V"⟩
noncomputable abbrev cX1_begin : ByteArray := prog_3_method_2_code
noncomputable def yX1_begin : MethodName := ⟨RX1, "begin", "(II[B)V"⟩
noncomputable abbrev cX1_copyFrom : ByteArray := prog_3_method_3_code
noncomputable def yX1_copyFrom : MethodName := ⟨RX1, "copyFrom", "(LCardLine$Card;)V"⟩
noncomputable abbrev cX1_isFinished : ByteArray := prog_3_method_4_code
noncomputable def yX1_isFinished : MethodName := ⟨RX1, "isFinished", "()Z"⟩
noncomputable def RX2 : String := "CardLine$Event"
noncomputable def RX3 : String := "CardLine$Line"
noncomputable def TX3 : u_T := fun k => match k with
  | 0 => ("CardLine$Line", "dayLength", "I", false)
  | 1 => ("CardLine$Line", "trayPlaces", "I", false)
  | 2 => ("CardLine$Line", "tries", "I", false)
  | 3 => ("CardLine$Line", "blanksTold", "I", false)
  | 4 => ("CardLine$Line", "blanksAdded", "I", false)
  | 5 => ("CardLine$Line", "blanks", "I", false)
  | 6 => ("CardLine$Line", "time", "I", false)
  | 7 => ("CardLine$Line", "stationCount", "I", false)
  | 8 => ("CardLine$Line", "lotCount", "I", false)
  | 9 => ("CardLine$Line", "cardCount", "I", false)
  | 10 => ("CardLine$Line", "stations", "[LCardLine$Station;", true)
  | 11 => ("CardLine$Line", "lots", "[LCardLine$Lot;", true)
  | 12 => ("CardLine$Line", "cards", "[LCardLine$Card;", true)
  | 13 => ("CardLine$Line", "inState", "[I", true)
  | 14 => ("CardLine$Line", "leftCards", "[I", true)
  | 15 => ("CardLine$Line", "totals", "[I", true)
  | _ => ("CardLine$Line", "moved", "Z", false)
noncomputable def tyX3 : Nat → FieldType := fun k => match k with
  | 0 => .int
  | 1 => .int
  | 2 => .int
  | 3 => .int
  | 4 => .int
  | 5 => .int
  | 6 => .int
  | 7 => .int
  | 8 => .int
  | 9 => .int
  | 10 => .array (.object "CardLine$Station")
  | 11 => .array (.object "CardLine$Lot")
  | 12 => .array (.object "CardLine$Card")
  | 13 => .array .int
  | 14 => .array .int
  | 15 => .array .int
  | _ => .boolean
noncomputable abbrev wsX30 : List Cond := u_ws RX3 TX3 17
theorem nmX3 : ∀ a, a < 17 → ∀ b, b < 17 → a ≠ b → (TX3 a).2.1 ≠ (TX3 b).2.1 := by decide +kernel
theorem tyX3_ok : ∀ k, k < 17 → parseFieldDescriptor (TX3 k).2.2.1 = some (tyX3 k) := by decide +kernel
noncomputable abbrev cX3_init : ByteArray := prog_5_method_1_code
noncomputable def yX3_init : MethodName := ⟨RX3, "<init>", "()V"⟩
noncomputable abbrev cX3_begin : ByteArray := prog_5_method_2_code
noncomputable def yX3_begin : MethodName := ⟨RX3, "begin", "(IIII)V"⟩
noncomputable abbrev cX3_copyFrom : ByteArray := prog_5_method_3_code
noncomputable def yX3_copyFrom : MethodName := ⟨RX3, "copyFrom", "(LCardLine$Line;)V"⟩
noncomputable abbrev cX3_addStation : ByteArray := prog_5_method_4_code
noncomputable def yX3_addStation : MethodName := ⟨RX3, "addStation", "(II[B)V"⟩
noncomputable abbrev cX3_addLot : ByteArray := prog_5_method_5_code
noncomputable def yX3_addLot : MethodName := ⟨RX3, "addLot", "(I)V"⟩
noncomputable abbrev cX3_addCard : ByteArray := prog_5_method_6_code
noncomputable def yX3_addCard : MethodName := ⟨RX3, "addCard", "(I[B)V"⟩
noncomputable abbrev cX3_putAt : ByteArray := prog_5_method_7_code
noncomputable def yX3_putAt : MethodName := ⟨RX3, "putAt", "(II)V"⟩
noncomputable abbrev cX3_tick : ByteArray := prog_5_method_8_code
noncomputable def yX3_tick : MethodName := ⟨RX3, "tick", "()Z"⟩
noncomputable abbrev cX3_restOrWork : ByteArray := prog_5_method_9_code
noncomputable def yX3_restOrWork : MethodName := ⟨RX3, "restOrWork", "(LCardLine$Station;)Z"⟩
noncomputable abbrev cX3_failCardIn : ByteArray := prog_5_method_10_code
noncomputable def yX3_failCardIn : MethodName := ⟨RX3, "failCardIn", "(LCardLine$Station;)V"⟩
noncomputable abbrev cX3_goOn : ByteArray := prog_5_method_11_code
noncomputable def yX3_goOn : MethodName := ⟨RX3, "goOn", "(LCardLine$Station;I)V"⟩
noncomputable abbrev cX3_comeOut : ByteArray := prog_5_method_12_code
noncomputable def yX3_comeOut : MethodName := ⟨RX3, "comeOut", "(LCardLine$Station;)V"⟩
noncomputable abbrev cX3_feed : ByteArray := prog_5_method_13_code
noncomputable def yX3_feed : MethodName := ⟨RX3, "feed", "()V"⟩
noncomputable abbrev cX3_nextWaiting : ByteArray := prog_5_method_14_code
noncomputable def yX3_nextWaiting : MethodName := ⟨RX3, "nextWaiting", "()I"⟩
noncomputable abbrev cX3_emptyTray : ByteArray := prog_5_method_15_code
noncomputable def yX3_emptyTray : MethodName := ⟨RX3, "emptyTray", "()V"⟩
noncomputable abbrev cX3_countReadyCards : ByteArray := prog_5_method_16_code
noncomputable def yX3_countReadyCards : MethodName := ⟨RX3, "countReadyCards", "()V"⟩
noncomputable abbrev cX3_passTime : ByteArray := prog_5_method_17_code
noncomputable def yX3_passTime : MethodName := ⟨RX3, "passTime", "()V"⟩
noncomputable abbrev cX3_daysOver : ByteArray := prog_5_method_18_code
noncomputable def yX3_daysOver : MethodName := ⟨RX3, "daysOver", "()I"⟩
noncomputable abbrev cX3_enter : ByteArray := prog_5_method_19_code
noncomputable def yX3_enter : MethodName := ⟨RX3, "enter", "(II)V"⟩
noncomputable abbrev cX3_leave : ByteArray := prog_5_method_20_code
noncomputable def yX3_leave : MethodName := ⟨RX3, "leave", "(I)V"⟩
noncomputable abbrev cX3_abandon : ByteArray := prog_5_method_21_code
noncomputable def yX3_abandon : MethodName := ⟨RX3, "abandon", "(I)V"⟩
noncomputable abbrev cX3_changeState : ByteArray := prog_5_method_22_code
noncomputable def yX3_changeState : MethodName := ⟨RX3, "changeState", "(LCardLine$Card;I)V"⟩
noncomputable abbrev cX3_findNextCard : ByteArray := prog_5_method_23_code
noncomputable def yX3_findNextCard : MethodName := ⟨RX3, "findNextCard", "(LCardLine$Lot;)V"⟩
noncomputable abbrev cX3_ticksToCome : ByteArray := prog_5_method_24_code
noncomputable def yX3_ticksToCome : MethodName := ⟨RX3, "ticksToCome", "(I)I"⟩
noncomputable abbrev cX3_hasHappened : ByteArray := prog_5_method_25_code
noncomputable def yX3_hasHappened : MethodName := ⟨RX3, "hasHappened", "(LCardLine$Event;I)Z"⟩
noncomputable def RX4 : String := "CardLine$Lot"
noncomputable def TX4 : u_T := fun k => match k with
  | 0 => ("CardLine$Lot", "rank", "I", false)
  | 1 => ("CardLine$Lot", "size", "I", false)
  | 2 => ("CardLine$Lot", "byPlace", "[I", true)
  | 3 => ("CardLine$Lot", "nextPlace", "I", false)
  | 4 => ("CardLine$Lot", "left", "I", false)
  | 5 => ("CardLine$Lot", "givenUp", "I", false)
  | 6 => ("CardLine$Lot", "fails", "I", false)
  | 7 => ("CardLine$Lot", "scraps", "I", false)
  | 8 => ("CardLine$Lot", "todayLeft", "I", false)
  | 9 => ("CardLine$Lot", "todayFails", "I", false)
  | 10 => ("CardLine$Lot", "dayLeft", "[I", true)
  | _ => ("CardLine$Lot", "dayFails", "[I", true)
noncomputable def tyX4 : Nat → FieldType := fun k => match k with
  | 0 => .int
  | 1 => .int
  | 2 => .array .int
  | 3 => .int
  | 4 => .int
  | 5 => .int
  | 6 => .int
  | 7 => .int
  | 8 => .int
  | 9 => .int
  | 10 => .array .int
  | _ => .array .int
noncomputable abbrev wsX40 : List Cond := u_ws RX4 TX4 12
theorem nmX4 : ∀ a, a < 12 → ∀ b, b < 12 → a ≠ b → (TX4 a).2.1 ≠ (TX4 b).2.1 := by decide +kernel
theorem tyX4_ok : ∀ k, k < 12 → parseFieldDescriptor (TX4 k).2.2.1 = some (tyX4 k) := by decide +kernel
noncomputable abbrev cX4_init : ByteArray := prog_6_method_1_code
noncomputable def yX4_init : MethodName := ⟨RX4, "<init>", "()V"⟩
noncomputable abbrev cX4_begin : ByteArray := prog_6_method_2_code
noncomputable def yX4_begin : MethodName := ⟨RX4, "begin", "(I)V"⟩
noncomputable abbrev cX4_copyFrom : ByteArray := prog_6_method_3_code
noncomputable def yX4_copyFrom : MethodName := ⟨RX4, "copyFrom", "(LCardLine$Lot;)V"⟩
noncomputable abbrev cX4_cardAt : ByteArray := prog_6_method_4_code
noncomputable def yX4_cardAt : MethodName := ⟨RX4, "cardAt", "(I)I"⟩
noncomputable abbrev cX4_nextCard : ByteArray := prog_6_method_5_code
noncomputable def yX4_nextCard : MethodName := ⟨RX4, "nextCard", "()I"⟩
noncomputable abbrev cX4_isFinished : ByteArray := prog_6_method_6_code
noncomputable def yX4_isFinished : MethodName := ⟨RX4, "isFinished", "()Z"⟩
noncomputable abbrev cX4_endDay : ByteArray := prog_6_method_7_code
noncomputable def yX4_endDay : MethodName := ⟨RX4, "endDay", "(I)V"⟩
noncomputable def RX5 : String := "CardLine$Reader"
noncomputable def TX5 : u_T := fun k => match k with
  | 0 => ("CardLine$Reader", "text", "[B", true)
  | 1 => ("CardLine$Reader", "length", "I", false)
  | 2 => ("CardLine$Reader", "at", "I", false)
  | 3 => ("CardLine$Reader", "errorKind", "I", false)
  | 4 => ("CardLine$Reader", "errorPlace", "I", false)
  | 5 => ("CardLine$Reader", "statement", "I", false)
  | 6 => ("CardLine$Reader", "letters", "[B", true)
  | 7 => ("CardLine$Reader", "rowStart", "[I", true)
  | 8 => ("CardLine$Reader", "rowTimes", "[I", true)
  | 9 => ("CardLine$Reader", "letterCount", "I", false)
  | _ => ("CardLine$Reader", "depth", "I", false)
noncomputable def tyX5 : Nat → FieldType := fun k => match k with
  | 0 => .array .byte
  | 1 => .int
  | 2 => .int
  | 3 => .int
  | 4 => .int
  | 5 => .int
  | 6 => .array .byte
  | 7 => .array .int
  | 8 => .array .int
  | 9 => .int
  | _ => .int
noncomputable abbrev wsX50 : List Cond := u_ws RX5 TX5 11
theorem nmX5 : ∀ a, a < 11 → ∀ b, b < 11 → a ≠ b → (TX5 a).2.1 ≠ (TX5 b).2.1 := by decide +kernel
theorem tyX5_ok : ∀ k, k < 11 → parseFieldDescriptor (TX5 k).2.2.1 = some (tyX5 k) := by decide +kernel
noncomputable abbrev cX5_init : ByteArray := prog_7_method_1_code
noncomputable def yX5_init : MethodName := ⟨RX5, "<init>", "()V"⟩
noncomputable abbrev cX5_add : ByteArray := prog_7_method_2_code
noncomputable def yX5_add : MethodName := ⟨RX5, "add", "(J)Z"⟩
noncomputable abbrev cX5_start : ByteArray := prog_7_method_3_code
noncomputable def yX5_start : MethodName := ⟨RX5, "start", "()V"⟩
noncomputable abbrev cX5_isFine : ByteArray := prog_7_method_4_code
noncomputable def yX5_isFine : MethodName := ⟨RX5, "isFine", "()Z"⟩
noncomputable abbrev cX5_error : ByteArray := prog_7_method_5_code
noncomputable def yX5_error : MethodName := ⟨RX5, "error", "(II)V"⟩
noncomputable abbrev cX5_readDescription : ByteArray := prog_7_method_6_code
noncomputable def yX5_readDescription : MethodName := ⟨RX5, "readDescription", "(LCardLine$Line;)V"⟩
noncomputable abbrev cX5_readSemicolon : ByteArray := prog_7_method_7_code
noncomputable def yX5_readSemicolon : MethodName := ⟨RX5, "readSemicolon", "()Z"⟩
noncomputable abbrev cX5_readStatement : ByteArray := prog_7_method_8_code
noncomputable def yX5_readStatement : MethodName := ⟨RX5, "readStatement", "(LCardLine$Line;)V"⟩
noncomputable abbrev cX5_readLine : ByteArray := prog_7_method_9_code
noncomputable def yX5_readLine : MethodName := ⟨RX5, "readLine", "(LCardLine$Line;)V"⟩
noncomputable abbrev cX5_readStation : ByteArray := prog_7_method_10_code
noncomputable def yX5_readStation : MethodName := ⟨RX5, "readStation", "(LCardLine$Line;II)V"⟩
noncomputable abbrev cX5_readRest : ByteArray := prog_7_method_11_code
noncomputable def yX5_readRest : MethodName := ⟨RX5, "readRest", "(LCardLine$Line;)V"⟩
noncomputable abbrev cX5_readLot : ByteArray := prog_7_method_12_code
noncomputable def yX5_readLot : MethodName := ⟨RX5, "readLot", "(LCardLine$Line;I)V"⟩
noncomputable abbrev cX5_readCard : ByteArray := prog_7_method_13_code
noncomputable def yX5_readCard : MethodName := ⟨RX5, "readCard", "(LCardLine$Line;I)V"⟩
noncomputable abbrev cX5_skipSpaces : ByteArray := prog_7_method_14_code
noncomputable def yX5_skipSpaces : MethodName := ⟨RX5, "skipSpaces", "()I"⟩
noncomputable abbrev cX5_isLetter : ByteArray := prog_7_method_15_code
noncomputable def yX5_isLetter : MethodName := ⟨RX5, "isLetter", "(B)Z"⟩
noncomputable abbrev cX5_isDigit : ByteArray := prog_7_method_16_code
noncomputable def yX5_isDigit : MethodName := ⟨RX5, "isDigit", "(B)Z"⟩
noncomputable abbrev cX5_readWord : ByteArray := prog_7_method_17_code
noncomputable def yX5_readWord : MethodName := ⟨RX5, "readWord", "()I"⟩
noncomputable abbrev cX5_stands : ByteArray := prog_7_method_18_code
noncomputable def yX5_stands : MethodName := ⟨RX5, "stands", "(Ljava/lang/String;I)Z"⟩
noncomputable abbrev cX5_readNumber : ByteArray := prog_7_method_19_code
noncomputable def yX5_readNumber : MethodName := ⟨RX5, "readNumber", "(II)I"⟩
noncomputable abbrev cX5_readScript : ByteArray := prog_7_method_20_code
noncomputable def yX5_readScript : MethodName := ⟨RX5, "readScript", "()[B"⟩
noncomputable abbrev cX5_readOrder : ByteArray := prog_7_method_21_code
noncomputable def yX5_readOrder : MethodName := ⟨RX5, "readOrder", "(I)V"⟩
noncomputable abbrev cX5_textRead : ByteArray := prog_7_method_22_code
noncomputable def yX5_textRead : MethodName := ⟨RX5, "textRead", "()[B"⟩
noncomputable abbrev cX5_readText : ByteArray := prog_7_method_23_code
noncomputable def yX5_readText : MethodName := ⟨RX5, "readText", "()V"⟩
noncomputable abbrev cX5_rowLength : ByteArray := prog_7_method_24_code
noncomputable def yX5_rowLength : MethodName := ⟨RX5, "rowLength", "(I)I"⟩
noncomputable abbrev cX5_readLetter : ByteArray := prog_7_method_25_code
noncomputable def yX5_readLetter : MethodName := ⟨RX5, "readLetter", "(B)V"⟩
noncomputable abbrev cX5_openGroup : ByteArray := prog_7_method_26_code
noncomputable def yX5_openGroup : MethodName := ⟨RX5, "openGroup", "(II)V"⟩
noncomputable abbrev cX5_closeGroup : ByteArray := prog_7_method_27_code
noncomputable def yX5_closeGroup : MethodName := ⟨RX5, "closeGroup", "()V"⟩
noncomputable def RX6 : String := "CardLine$Station"
noncomputable def TX6 : u_T := fun k => match k with
  | 0 => ("CardLine$Station", "kind", "I", false)
  | 1 => ("CardLine$Station", "pace", "I", false)
  | 2 => ("CardLine$Station", "script", "[B", false)
  | 3 => ("CardLine$Station", "card", "I", false)
  | 4 => ("CardLine$Station", "need", "I", false)
  | 5 => ("CardLine$Station", "signsUsed", "I", false)
  | 6 => ("CardLine$Station", "signsSinceRest", "I", false)
  | 7 => ("CardLine$Station", "fails", "I", false)
  | 8 => ("CardLine$Station", "wentOn", "I", false)
  | 9 => ("CardLine$Station", "stopped", "Z", false)
  | 10 => ("CardLine$Station", "wheelLetter", "I", false)
  | 11 => ("CardLine$Station", "restAfter", "I", false)
  | 12 => ("CardLine$Station", "restTicks", "I", false)
  | 13 => ("CardLine$Station", "restLeft", "I", false)
  | _ => ("CardLine$Station", "worked", "I", false)
noncomputable def tyX6 : Nat → FieldType := fun k => match k with
  | 0 => .int
  | 1 => .int
  | 2 => .array .byte
  | 3 => .int
  | 4 => .int
  | 5 => .int
  | 6 => .int
  | 7 => .int
  | 8 => .int
  | 9 => .boolean
  | 10 => .int
  | 11 => .int
  | 12 => .int
  | 13 => .int
  | _ => .int
noncomputable abbrev wsX60 : List Cond := u_ws RX6 TX6 15
theorem nmX6 : ∀ a, a < 15 → ∀ b, b < 15 → a ≠ b → (TX6 a).2.1 ≠ (TX6 b).2.1 := by decide +kernel
theorem tyX6_ok : ∀ k, k < 15 → parseFieldDescriptor (TX6 k).2.2.1 = some (tyX6 k) := by decide +kernel
noncomputable abbrev cX6_init : ByteArray := prog_8_method_1_code
noncomputable def yX6_init : MethodName := ⟨RX6, "<init>", "()V"⟩
noncomputable abbrev cX6_begin : ByteArray := prog_8_method_2_code
noncomputable def yX6_begin : MethodName := ⟨RX6, "begin", "(II[B)V"⟩
noncomputable abbrev cX6_copyFrom : ByteArray := prog_8_method_3_code
noncomputable def yX6_copyFrom : MethodName := ⟨RX6, "copyFrom", "(LCardLine$Station;)V"⟩
noncomputable abbrev cX6_hasReadyCard : ByteArray := prog_8_method_4_code
noncomputable def yX6_hasReadyCard : MethodName := ⟨RX6, "hasReadyCard", "()Z"⟩
noncomputable abbrev cX6_turnsOf : ByteArray := prog_8_method_5_code
noncomputable def yX6_turnsOf : MethodName := ⟨RX6, "turnsOf", "([B)I"⟩
noncomputable abbrev cX6_ticksWith : ByteArray := prog_8_method_6_code
noncomputable def yX6_ticksWith : MethodName := ⟨RX6, "ticksWith", "([BI)I"⟩
noncomputable abbrev cX6_ticksOf : ByteArray := prog_8_method_7_code
noncomputable def yX6_ticksOf : MethodName := ⟨RX6, "ticksOf", "([B)I"⟩
noncomputable abbrev cX6_takeIn : ByteArray := prog_8_method_8_code
noncomputable def yX6_takeIn : MethodName := ⟨RX6, "takeIn", "(I[BI)V"⟩
noncomputable abbrev cX6_letFail : ByteArray := prog_8_method_9_code
noncomputable def yX6_letFail : MethodName := ⟨RX6, "letFail", "()V"⟩
noncomputable abbrev cX6_letGoOn : ByteArray := prog_8_method_10_code
noncomputable def yX6_letGoOn : MethodName := ⟨RX6, "letGoOn", "()V"⟩
noncomputable abbrev cX6_useSign : ByteArray := prog_8_method_11_code
noncomputable def yX6_useSign : MethodName := ⟨RX6, "useSign", "()Z"⟩
noncomputable def RX7 : String := "CardLine"
noncomputable def TX7 : u_T := fun k => match k with
  | 0 => ("CardLine", "line", "LCardLine$Line;", true)
  | 1 => ("CardLine", "scratch", "LCardLine$Line;", true)
  | 2 => ("CardLine", "reader", "LCardLine$Reader;", true)
  | 3 => ("CardLine", "output", "[B", true)
  | 4 => ("CardLine", "past", "[LCardLine$Line;", true)
  | 5 => ("CardLine", "saved", "[LCardLine$Line;", true)
  | 6 => ("CardLine", "finishTimes", "[I", true)
  | 7 => ("CardLine", "outputLength", "I", false)
  | 8 => ("CardLine", "errorKind", "I", false)
  | 9 => ("CardLine", "errorStatement", "I", false)
  | 10 => ("CardLine", "oldestPast", "I", false)
  | _ => ("CardLine", "pastCount", "I", false)
noncomputable def tyX7 : Nat → FieldType := fun k => match k with
  | 0 => .object "CardLine$Line"
  | 1 => .object "CardLine$Line"
  | 2 => .object "CardLine$Reader"
  | 3 => .array .byte
  | 4 => .array (.object "CardLine$Line")
  | 5 => .array (.object "CardLine$Line")
  | 6 => .array .int
  | 7 => .int
  | 8 => .int
  | 9 => .int
  | 10 => .int
  | _ => .int
noncomputable abbrev wsX70 : List Cond := u_ws RX7 TX7 12
theorem nmX7 : ∀ a, a < 12 → ∀ b, b < 12 → a ≠ b → (TX7 a).2.1 ≠ (TX7 b).2.1 := by decide +kernel
theorem tyX7_ok : ∀ k, k < 12 → parseFieldDescriptor (TX7 k).2.2.1 = some (tyX7 k) := by decide +kernel
noncomputable abbrev cX7_init : ByteArray := prog_1_method_1_code
noncomputable def yX7_init : MethodName := ⟨RX7, "<init>", "()V"⟩
noncomputable abbrev cX7_append : ByteArray := prog_1_method_2_code
noncomputable def yX7_append : MethodName := ⟨RX7, "append", "(J)I"⟩
noncomputable abbrev cX7_load : ByteArray := prog_1_method_3_code
noncomputable def yX7_load : MethodName := ⟨RX7, "load", "()I"⟩
noncomputable abbrev cX7_keepResult : ByteArray := prog_1_method_4_code
noncomputable def yX7_keepResult : MethodName := ⟨RX7, "keepResult", "()V"⟩
noncomputable abbrev cX7_loadError : ByteArray := prog_1_method_5_code
noncomputable def yX7_loadError : MethodName := ⟨RX7, "loadError", "()I"⟩
noncomputable abbrev cX7_loadStatement : ByteArray := prog_1_method_6_code
noncomputable def yX7_loadStatement : MethodName := ⟨RX7, "loadStatement", "()I"⟩
noncomputable abbrev cX7_needStation : ByteArray := prog_1_method_7_code
noncomputable def yX7_needStation : MethodName := ⟨RX7, "needStation", "(I)V"⟩
noncomputable abbrev cX7_needCard : ByteArray := prog_1_method_8_code
noncomputable def yX7_needCard : MethodName := ⟨RX7, "needCard", "(I)V"⟩
noncomputable abbrev cX7_needLot : ByteArray := prog_1_method_9_code
noncomputable def yX7_needLot : MethodName := ⟨RX7, "needLot", "(I)V"⟩
noncomputable abbrev cX7_needRange : ByteArray := prog_1_method_10_code
noncomputable def yX7_needRange : MethodName := ⟨RX7, "needRange", "(III)V"⟩
noncomputable abbrev cX7_count : ByteArray := prog_1_method_11_code
noncomputable def yX7_count : MethodName := ⟨RX7, "count", "(I)I"⟩
noncomputable abbrev cX7_setting : ByteArray := prog_1_method_12_code
noncomputable def yX7_setting : MethodName := ⟨RX7, "setting", "(I)I"⟩
noncomputable abbrev cX7_station : ByteArray := prog_1_method_13_code
noncomputable def yX7_station : MethodName := ⟨RX7, "station", "(II)I"⟩
noncomputable abbrev cX7_card : ByteArray := prog_1_method_14_code
noncomputable def yX7_card : MethodName := ⟨RX7, "card", "(II)I"⟩
noncomputable abbrev cX7_letter : ByteArray := prog_1_method_15_code
noncomputable def yX7_letter : MethodName := ⟨RX7, "letter", "(II)I"⟩
noncomputable abbrev cX7_lot : ByteArray := prog_1_method_16_code
noncomputable def yX7_lot : MethodName := ⟨RX7, "lot", "(II)I"⟩
noncomputable abbrev cX7_cardOf : ByteArray := prog_1_method_17_code
noncomputable def yX7_cardOf : MethodName := ⟨RX7, "cardOf", "(II)I"⟩
noncomputable abbrev cX7_trayAt : ByteArray := prog_1_method_18_code
noncomputable def yX7_trayAt : MethodName := ⟨RX7, "trayAt", "(I)I"⟩
noncomputable abbrev cX7_leftAt : ByteArray := prog_1_method_19_code
noncomputable def yX7_leftAt : MethodName := ⟨RX7, "leftAt", "(I)I"⟩
noncomputable abbrev cX7_nextFed : ByteArray := prog_1_method_20_code
noncomputable def yX7_nextFed : MethodName := ⟨RX7, "nextFed", "()I"⟩
noncomputable abbrev cX7_steps : ByteArray := prog_1_method_21_code
noncomputable def yX7_steps : MethodName := ⟨RX7, "steps", "(II)I"⟩
noncomputable abbrev cX7_ticksFor : ByteArray := prog_1_method_22_code
noncomputable def yX7_ticksFor : MethodName := ⟨RX7, "ticksFor", "(II)I"⟩
noncomputable abbrev cX7_stepsOf : ByteArray := prog_1_method_23_code
noncomputable def yX7_stepsOf : MethodName := ⟨RX7, "stepsOf", "([BI)I"⟩
noncomputable abbrev cX7_now : ByteArray := prog_1_method_24_code
noncomputable def yX7_now : MethodName := ⟨RX7, "now", "()I"⟩
noncomputable abbrev cX7_day : ByteArray := prog_1_method_25_code
noncomputable def yX7_day : MethodName := ⟨RX7, "day", "(III)I"⟩
noncomputable abbrev cX7_today : ByteArray := prog_1_method_26_code
noncomputable def yX7_today : MethodName := ⟨RX7, "today", "(II)I"⟩
noncomputable abbrev cX7_total : ByteArray := prog_1_method_27_code
noncomputable def yX7_total : MethodName := ⟨RX7, "total", "(I)I"⟩
noncomputable abbrev cX7_yieldPart : ByteArray := prog_1_method_28_code
noncomputable def yX7_yieldPart : MethodName := ⟨RX7, "yieldPart", "()D"⟩
noncomputable abbrev cX7_meanFails : ByteArray := prog_1_method_29_code
noncomputable def yX7_meanFails : MethodName := ⟨RX7, "meanFails", "()F"⟩
noncomputable abbrev cX7_busyPart : ByteArray := prog_1_method_30_code
noncomputable def yX7_busyPart : MethodName := ⟨RX7, "busyPart", "(I)F"⟩
noncomputable abbrev cX7_bottleneck : ByteArray := prog_1_method_31_code
noncomputable def yX7_bottleneck : MethodName := ⟨RX7, "bottleneck", "()I"⟩
noncomputable abbrev cX7_remember : ByteArray := prog_1_method_32_code
noncomputable def yX7_remember : MethodName := ⟨RX7, "remember", "()V"⟩
noncomputable abbrev cX7_waits : ByteArray := prog_1_method_33_code
noncomputable def yX7_waits : MethodName := ⟨RX7, "waits", "(I)Z"⟩
noncomputable abbrev cX7_order : ByteArray := prog_1_method_34_code
noncomputable def yX7_order : MethodName := ⟨RX7, "order", "(I)I"⟩
noncomputable abbrev cX7_giveUp : ByteArray := prog_1_method_35_code
noncomputable def yX7_giveUp : MethodName := ⟨RX7, "giveUp", "(I)I"⟩
noncomputable abbrev cX7_setRank : ByteArray := prog_1_method_36_code
noncomputable def yX7_setRank : MethodName := ⟨RX7, "setRank", "(II)I"⟩
noncomputable abbrev cX7_refill : ByteArray := prog_1_method_37_code
noncomputable def yX7_refill : MethodName := ⟨RX7, "refill", "(I)I"⟩
noncomputable abbrev cX7_setPace : ByteArray := prog_1_method_38_code
noncomputable def yX7_setPace : MethodName := ⟨RX7, "setPace", "(II)I"⟩
noncomputable abbrev cX7_mostPace : ByteArray := prog_1_method_39_code
noncomputable def yX7_mostPace : MethodName := ⟨RX7, "mostPace", "(I)I"⟩
noncomputable abbrev cX7_stop : ByteArray := prog_1_method_40_code
noncomputable def yX7_stop : MethodName := ⟨RX7, "stop", "(IZ)I"⟩
noncomputable abbrev cX7_setRest : ByteArray := prog_1_method_41_code
noncomputable def yX7_setRest : MethodName := ⟨RX7, "setRest", "(III)I"⟩
noncomputable abbrev cX7_rush : ByteArray := prog_1_method_42_code
noncomputable def yX7_rush : MethodName := ⟨RX7, "rush", "(I)I"⟩
noncomputable abbrev cX7_swap : ByteArray := prog_1_method_43_code
noncomputable def yX7_swap : MethodName := ⟨RX7, "swap", "(II)I"⟩
noncomputable abbrev cX7_setTries : ByteArray := prog_1_method_44_code
noncomputable def yX7_setTries : MethodName := ⟨RX7, "setTries", "(I)I"⟩
noncomputable abbrev cX7_setTray : ByteArray := prog_1_method_45_code
noncomputable def yX7_setTray : MethodName := ⟨RX7, "setTray", "(I)I"⟩
noncomputable abbrev cX7_run : ByteArray := prog_1_method_46_code
noncomputable def yX7_run : MethodName := ⟨RX7, "run", "(I)I"⟩
noncomputable abbrev cX7_runToLeave : ByteArray := prog_1_method_47_code
noncomputable def yX7_runToLeave : MethodName := ⟨RX7, "runToLeave", "(I)I"⟩
noncomputable abbrev cX7_copyOfLine : ByteArray := prog_1_method_48_code
noncomputable def yX7_copyOfLine : MethodName := ⟨RX7, "copyOfLine", "()LCardLine$Line;"⟩
noncomputable abbrev cX7_ticksUntil : ByteArray := prog_1_method_49_code
noncomputable def yX7_ticksUntil : MethodName := ⟨RX7, "ticksUntil", "(LCardLine$Line;LCardLine$Event;II)I"⟩
noncomputable abbrev cX7_copyBehind : ByteArray := prog_1_method_50_code
noncomputable def yX7_copyBehind : MethodName := ⟨RX7, "copyBehind", "(I)LCardLine$Line;"⟩
noncomputable abbrev cX7_leavesIn : ByteArray := prog_1_method_51_code
noncomputable def yX7_leavesIn : MethodName := ⟨RX7, "leavesIn", "(I)I"⟩
noncomputable abbrev cX7_lotIn : ByteArray := prog_1_method_52_code
noncomputable def yX7_lotIn : MethodName := ⟨RX7, "lotIn", "(I)I"⟩
noncomputable abbrev cX7_allIn : ByteArray := prog_1_method_53_code
noncomputable def yX7_allIn : MethodName := ⟨RX7, "allIn", "()I"⟩
noncomputable abbrev cX7_leftIn : ByteArray := prog_1_method_54_code
noncomputable def yX7_leftIn : MethodName := ⟨RX7, "leftIn", "(I)I"⟩
noncomputable abbrev cX7_failIn : ByteArray := prog_1_method_55_code
noncomputable def yX7_failIn : MethodName := ⟨RX7, "failIn", "(I)I"⟩
noncomputable abbrev cX7_blanksIn : ByteArray := prog_1_method_56_code
noncomputable def yX7_blanksIn : MethodName := ⟨RX7, "blanksIn", "(I)I"⟩
noncomputable abbrev cX7_restIn : ByteArray := prog_1_method_57_code
noncomputable def yX7_restIn : MethodName := ⟨RX7, "restIn", "(I)I"⟩
noncomputable abbrev cX7_lotBy : ByteArray := prog_1_method_58_code
noncomputable def yX7_lotBy : MethodName := ⟨RX7, "lotBy", "(I)I"⟩
noncomputable abbrev cX7_lotsFinishedBefore : ByteArray := prog_1_method_59_code
noncomputable def yX7_lotsFinishedBefore : MethodName := ⟨RX7, "lotsFinishedBefore", "(I)I"⟩
noncomputable abbrev cX7_bestRank : ByteArray := prog_1_method_60_code
noncomputable def yX7_bestRank : MethodName := ⟨RX7, "bestRank", "(I)I"⟩
noncomputable abbrev cX7_bestTray : ByteArray := prog_1_method_61_code
noncomputable def yX7_bestTray : MethodName := ⟨RX7, "bestTray", "()I"⟩
noncomputable abbrev cX7_writeCard : ByteArray := prog_1_method_62_code
noncomputable def yX7_writeCard : MethodName := ⟨RX7, "writeCard", "(I)I"⟩
noncomputable abbrev cX7_outputByte : ByteArray := prog_1_method_63_code
noncomputable def yX7_outputByte : MethodName := ⟨RX7, "outputByte", "(I)I"⟩
noncomputable abbrev cX7_undo : ByteArray := prog_1_method_64_code
noncomputable def yX7_undo : MethodName := ⟨RX7, "undo", "()I"⟩
noncomputable abbrev cX7_saveSnapshot : ByteArray := prog_1_method_65_code
noncomputable def yX7_saveSnapshot : MethodName := ⟨RX7, "saveSnapshot", "(I)I"⟩
noncomputable abbrev cX7_restoreSnapshot : ByteArray := prog_1_method_66_code
noncomputable def yX7_restoreSnapshot : MethodName := ⟨RX7, "restoreSnapshot", "(I)I"⟩
noncomputable def RX8 : String := "CardLineModel"
noncomputable def TX8 : u_T := fun k => match k with
  | 0 => ("CardLineModel", "now", "[I", true)
  | 1 => ("CardLineModel", "aside", "[I", true)
  | 2 => ("CardLineModel", "past", "[I", true)
  | 3 => ("CardLineModel", "copies", "[I", true)
  | 4 => ("CardLineModel", "isSaved", "[Z", true)
  | 5 => ("CardLineModel", "pastMany", "I", false)
  | 6 => ("CardLineModel", "thrown", "I", false)
  | 7 => ("CardLineModel", "buffer", "[B", true)
  | 8 => ("CardLineModel", "length", "I", false)
  | 9 => ("CardLineModel", "at", "I", false)
  | 10 => ("CardLineModel", "begin", "I", false)
  | 11 => ("CardLineModel", "error", "I", false)
  | 12 => ("CardLineModel", "errorAt", "I", false)
  | 13 => ("CardLineModel", "statement", "I", false)
  | 14 => ("CardLineModel", "statementAt", "I", false)
  | 15 => ("CardLineModel", "lastError", "I", false)
  | 16 => ("CardLineModel", "lastStatement", "I", false)
  | 17 => ("CardLineModel", "letters", "[I", true)
  | 18 => ("CardLineModel", "rowAt", "[I", true)
  | 19 => ("CardLineModel", "letterMany", "I", false)
  | 20 => ("CardLineModel", "ends", "[I", true)
  | 21 => ("CardLineModel", "output", "[B", true)
  | _ => ("CardLineModel", "written", "I", false)
noncomputable def tyX8 : Nat → FieldType := fun k => match k with
  | 0 => .array .int
  | 1 => .array .int
  | 2 => .array .int
  | 3 => .array .int
  | 4 => .array .boolean
  | 5 => .int
  | 6 => .int
  | 7 => .array .byte
  | 8 => .int
  | 9 => .int
  | 10 => .int
  | 11 => .int
  | 12 => .int
  | 13 => .int
  | 14 => .int
  | 15 => .int
  | 16 => .int
  | 17 => .array .int
  | 18 => .array .int
  | 19 => .int
  | 20 => .array .int
  | 21 => .array .byte
  | _ => .int
noncomputable abbrev wsX80 : List Cond := u_ws RX8 TX8 23
theorem nmX8 : ∀ a, a < 23 → ∀ b, b < 23 → a ≠ b → (TX8 a).2.1 ≠ (TX8 b).2.1 := by decide +kernel
theorem tyX8_ok : ∀ k, k < 23 → parseFieldDescriptor (TX8 k).2.2.1 = some (tyX8 k) := by decide +kernel
noncomputable abbrev cX8_init : ByteArray := prog_10_method_1_code
noncomputable def yX8_init : MethodName := ⟨RX8, "<init>", "()V"⟩
noncomputable abbrev cX8_in : ByteArray := prog_10_method_3_code
noncomputable def yX8_in : MethodName := ⟨RX8, "in", "(JJJ)Z"⟩
noncomputable abbrev cX8_copies : ByteArray := prog_10_method_4_code
noncomputable def yX8_copies : MethodName := ⟨RX8, "copies", "([II[II)V"⟩
noncomputable abbrev cX8_begins : ByteArray := prog_10_method_5_code
noncomputable def yX8_begins : MethodName := ⟨RX8, "begins", "()V"⟩
noncomputable abbrev cX8_isThrown : ByteArray := prog_10_method_6_code
noncomputable def yX8_isThrown : MethodName := ⟨RX8, "isThrown", "(ZI)Z"⟩
noncomputable abbrev cX8_of : ByteArray := prog_10_method_7_code
noncomputable def yX8_of : MethodName := ⟨RX8, "of", "(II)I"⟩
noncomputable abbrev cX8_sets : ByteArray := prog_10_method_8_code
noncomputable def yX8_sets : MethodName := ⟨RX8, "sets", "(III)V"⟩
noncomputable abbrev cX8_grows : ByteArray := prog_10_method_9_code
noncomputable def yX8_grows : MethodName := ⟨RX8, "grows", "(III)V"⟩
noncomputable abbrev cX8_ofCard : ByteArray := prog_10_method_10_code
noncomputable def yX8_ofCard : MethodName := ⟨RX8, "ofCard", "(II)I"⟩
noncomputable abbrev cX8_setsCard : ByteArray := prog_10_method_11_code
noncomputable def yX8_setsCard : MethodName := ⟨RX8, "setsCard", "(III)V"⟩
noncomputable abbrev cX8_ofLot : ByteArray := prog_10_method_12_code
noncomputable def yX8_ofLot : MethodName := ⟨RX8, "ofLot", "(II)I"⟩
noncomputable abbrev cX8_isStation : ByteArray := prog_10_method_13_code
noncomputable def yX8_isStation : MethodName := ⟨RX8, "isStation", "(I)Z"⟩
noncomputable abbrev cX8_isLot : ByteArray := prog_10_method_14_code
noncomputable def yX8_isLot : MethodName := ⟨RX8, "isLot", "(I)Z"⟩
noncomputable abbrev cX8_isCard : ByteArray := prog_10_method_15_code
noncomputable def yX8_isCard : MethodName := ⟨RX8, "isCard", "(I)Z"⟩
noncomputable abbrev cX8_byteOf : ByteArray := prog_10_method_16_code
noncomputable def yX8_byteOf : MethodName := ⟨RX8, "byteOf", "(JI)I"⟩
noncomputable abbrev cX8_append : ByteArray := prog_10_method_17_code
noncomputable def yX8_append : MethodName := ⟨RX8, "append", "(J)I"⟩
noncomputable abbrev cX8_here : ByteArray := prog_10_method_18_code
noncomputable def yX8_here : MethodName := ⟨RX8, "here", "()I"⟩
noncomputable abbrev cX8_next : ByteArray := prog_10_method_19_code
noncomputable def yX8_next : MethodName := ⟨RX8, "next", "()I"⟩
noncomputable abbrev cX8_fails : ByteArray := prog_10_method_20_code
noncomputable def yX8_fails : MethodName := ⟨RX8, "fails", "(I)V"⟩
noncomputable abbrev cX8_reads : ByteArray := prog_10_method_21_code
noncomputable def yX8_reads : MethodName := ⟨RX8, "reads", "()V"⟩
noncomputable abbrev cX8_isWord : ByteArray := prog_10_method_22_code
noncomputable def yX8_isWord : MethodName := ⟨RX8, "isWord", "(Ljava/lang/String;)Z"⟩
noncomputable abbrev cX8_number : ByteArray := prog_10_method_23_code
noncomputable def yX8_number : MethodName := ⟨RX8, "number", "(II)I"⟩
noncomputable abbrev cX8_pieces : ByteArray := prog_10_method_24_code
noncomputable def yX8_pieces : MethodName := ⟨RX8, "pieces", "(I)V"⟩
noncomputable abbrev cX8_takes : ByteArray := prog_10_method_25_code
noncomputable def yX8_takes : MethodName := ⟨RX8, "takes", "(II)V"⟩
noncomputable abbrev cX8_group : ByteArray := prog_10_method_26_code
noncomputable def yX8_group : MethodName := ⟨RX8, "group", "(I)V"⟩
noncomputable abbrev cX8_repeats : ByteArray := prog_10_method_27_code
noncomputable def yX8_repeats : MethodName := ⟨RX8, "repeats", "(II)V"⟩
noncomputable abbrev cX8_text : ByteArray := prog_10_method_28_code
noncomputable def yX8_text : MethodName := ⟨RX8, "text", "()V"⟩
noncomputable abbrev cX8_adds : ByteArray := prog_10_method_29_code
noncomputable def yX8_adds : MethodName := ⟨RX8, "adds", "(I)V"⟩
noncomputable abbrev cX8_tooMany : ByteArray := prog_10_method_30_code
noncomputable def yX8_tooMany : MethodName := ⟨RX8, "tooMany", "(Z)V"⟩
noncomputable abbrev cX8_linePart : ByteArray := prog_10_method_31_code
noncomputable def yX8_linePart : MethodName := ⟨RX8, "linePart", "()V"⟩
noncomputable abbrev cX8_scriptPart : ByteArray := prog_10_method_32_code
noncomputable def yX8_scriptPart : MethodName := ⟨RX8, "scriptPart", "(I)V"⟩
noncomputable abbrev cX8_stationPart : ByteArray := prog_10_method_33_code
noncomputable def yX8_stationPart : MethodName := ⟨RX8, "stationPart", "(I)V"⟩
noncomputable abbrev cX8_mostPace : ByteArray := prog_10_method_34_code
noncomputable def yX8_mostPace : MethodName := ⟨RX8, "mostPace", "(I)I"⟩
noncomputable abbrev cX8_restPart : ByteArray := prog_10_method_35_code
noncomputable def yX8_restPart : MethodName := ⟨RX8, "restPart", "()V"⟩
noncomputable abbrev cX8_lotPart : ByteArray := prog_10_method_36_code
noncomputable def yX8_lotPart : MethodName := ⟨RX8, "lotPart", "()V"⟩
noncomputable abbrev cX8_cardPart : ByteArray := prog_10_method_37_code
noncomputable def yX8_cardPart : MethodName := ⟨RX8, "cardPart", "()V"⟩
noncomputable abbrev cX8_statement : ByteArray := prog_10_method_38_code
noncomputable def yX8_statement : MethodName := ⟨RX8, "statement", "()V"⟩
noncomputable abbrev cX8_isMore : ByteArray := prog_10_method_39_code
noncomputable def yX8_isMore : MethodName := ⟨RX8, "isMore", "()Z"⟩
noncomputable abbrev cX8_starts : ByteArray := prog_10_method_40_code
noncomputable def yX8_starts : MethodName := ⟨RX8, "starts", "()V"⟩
noncomputable abbrev cX8_settles : ByteArray := prog_10_method_41_code
noncomputable def yX8_settles : MethodName := ⟨RX8, "settles", "()V"⟩
noncomputable abbrev cX8_load : ByteArray := prog_10_method_42_code
noncomputable def yX8_load : MethodName := ⟨RX8, "load", "()I"⟩
noncomputable abbrev cX8_order : ByteArray := prog_10_method_43_code
noncomputable def yX8_order : MethodName := ⟨RX8, "order", "(I)I"⟩
noncomputable abbrev cX8_loadError : ByteArray := prog_10_method_44_code
noncomputable def yX8_loadError : MethodName := ⟨RX8, "loadError", "()I"⟩
noncomputable abbrev cX8_loadStatement : ByteArray := prog_10_method_45_code
noncomputable def yX8_loadStatement : MethodName := ⟨RX8, "loadStatement", "()I"⟩
noncomputable abbrev cX8_inState : ByteArray := prog_10_method_46_code
noncomputable def yX8_inState : MethodName := ⟨RX8, "inState", "(I)I"⟩
noncomputable abbrev cX8_count : ByteArray := prog_10_method_47_code
noncomputable def yX8_count : MethodName := ⟨RX8, "count", "(I)I"⟩
noncomputable abbrev cX8_setting : ByteArray := prog_10_method_48_code
noncomputable def yX8_setting : MethodName := ⟨RX8, "setting", "(I)I"⟩
noncomputable abbrev cX8_station : ByteArray := prog_10_method_49_code
noncomputable def yX8_station : MethodName := ⟨RX8, "station", "(II)I"⟩
noncomputable abbrev cX8_card : ByteArray := prog_10_method_50_code
noncomputable def yX8_card : MethodName := ⟨RX8, "card", "(II)I"⟩
noncomputable abbrev cX8_letter : ByteArray := prog_10_method_51_code
noncomputable def yX8_letter : MethodName := ⟨RX8, "letter", "(II)I"⟩
noncomputable abbrev cX8_isFinished : ByteArray := prog_10_method_52_code
noncomputable def yX8_isFinished : MethodName := ⟨RX8, "isFinished", "(I)Z"⟩
noncomputable abbrev cX8_at : ByteArray := prog_10_method_53_code
noncomputable def yX8_at : MethodName := ⟨RX8, "at", "(II)I"⟩
noncomputable abbrev cX8_nextOf : ByteArray := prog_10_method_54_code
noncomputable def yX8_nextOf : MethodName := ⟨RX8, "nextOf", "(I)I"⟩
noncomputable abbrev cX8_sumOf : ByteArray := prog_10_method_55_code
noncomputable def yX8_sumOf : MethodName := ⟨RX8, "sumOf", "(II)I"⟩
noncomputable abbrev cX8_inStateOf : ByteArray := prog_10_method_56_code
noncomputable def yX8_inStateOf : MethodName := ⟨RX8, "inStateOf", "(II)I"⟩
noncomputable abbrev cX8_lot : ByteArray := prog_10_method_57_code
noncomputable def yX8_lot : MethodName := ⟨RX8, "lot", "(II)I"⟩
noncomputable abbrev cX8_cardOf : ByteArray := prog_10_method_58_code
noncomputable def yX8_cardOf : MethodName := ⟨RX8, "cardOf", "(II)I"⟩
noncomputable abbrev cX8_trayAt : ByteArray := prog_10_method_59_code
noncomputable def yX8_trayAt : MethodName := ⟨RX8, "trayAt", "(I)I"⟩
noncomputable abbrev cX8_leftAt : ByteArray := prog_10_method_60_code
noncomputable def yX8_leftAt : MethodName := ⟨RX8, "leftAt", "(I)I"⟩
noncomputable abbrev cX8_classOf : ByteArray := prog_10_method_61_code
noncomputable def yX8_classOf : MethodName := ⟨RX8, "classOf", "(I)I"⟩
noncomputable abbrev cX8_rankOf : ByteArray := prog_10_method_62_code
noncomputable def yX8_rankOf : MethodName := ⟨RX8, "rankOf", "(I)I"⟩
noncomputable abbrev cX8_isAhead : ByteArray := prog_10_method_63_code
noncomputable def yX8_isAhead : MethodName := ⟨RX8, "isAhead", "(II)Z"⟩
noncomputable abbrev cX8_toFeed : ByteArray := prog_10_method_64_code
noncomputable def yX8_toFeed : MethodName := ⟨RX8, "toFeed", "()I"⟩
noncomputable abbrev cX8_nextFed : ByteArray := prog_10_method_65_code
noncomputable def yX8_nextFed : MethodName := ⟨RX8, "nextFed", "()I"⟩
noncomputable abbrev cX8_turn : ByteArray := prog_10_method_66_code
noncomputable def yX8_turn : MethodName := ⟨RX8, "turn", "(II)I"⟩
noncomputable abbrev cX8_stepsOf : ByteArray := prog_10_method_67_code
noncomputable def yX8_stepsOf : MethodName := ⟨RX8, "stepsOf", "(II)I"⟩
noncomputable abbrev cX8_steps : ByteArray := prog_10_method_68_code
noncomputable def yX8_steps : MethodName := ⟨RX8, "steps", "(II)I"⟩
noncomputable abbrev cX8_ticksOf : ByteArray := prog_10_method_69_code
noncomputable def yX8_ticksOf : MethodName := ⟨RX8, "ticksOf", "(II)I"⟩
noncomputable abbrev cX8_ticksFor : ByteArray := prog_10_method_70_code
noncomputable def yX8_ticksFor : MethodName := ⟨RX8, "ticksFor", "(II)I"⟩
noncomputable abbrev cX8_now : ByteArray := prog_10_method_71_code
noncomputable def yX8_now : MethodName := ⟨RX8, "now", "()I"⟩
noncomputable abbrev cX8_day : ByteArray := prog_10_method_72_code
noncomputable def yX8_day : MethodName := ⟨RX8, "day", "(III)I"⟩
noncomputable abbrev cX8_today : ByteArray := prog_10_method_73_code
noncomputable def yX8_today : MethodName := ⟨RX8, "today", "(II)I"⟩
noncomputable abbrev cX8_total : ByteArray := prog_10_method_74_code
noncomputable def yX8_total : MethodName := ⟨RX8, "total", "(I)I"⟩
noncomputable abbrev cX8_yieldPart : ByteArray := prog_10_method_75_code
noncomputable def yX8_yieldPart : MethodName := ⟨RX8, "yieldPart", "()D"⟩
noncomputable abbrev cX8_meanFails : ByteArray := prog_10_method_76_code
noncomputable def yX8_meanFails : MethodName := ⟨RX8, "meanFails", "()F"⟩
noncomputable abbrev cX8_busyPart : ByteArray := prog_10_method_77_code
noncomputable def yX8_busyPart : MethodName := ⟨RX8, "busyPart", "(I)F"⟩
noncomputable abbrev cX8_bottleneck : ByteArray := prog_10_method_78_code
noncomputable def yX8_bottleneck : MethodName := ⟨RX8, "bottleneck", "()I"⟩
noncomputable abbrev cX8_enters : ByteArray := prog_10_method_79_code
noncomputable def yX8_enters : MethodName := ⟨RX8, "enters", "(II)V"⟩
noncomputable abbrev cX8_leaves : ByteArray := prog_10_method_80_code
noncomputable def yX8_leaves : MethodName := ⟨RX8, "leaves", "(I)V"⟩
noncomputable abbrev cX8_failsIn : ByteArray := prog_10_method_81_code
noncomputable def yX8_failsIn : MethodName := ⟨RX8, "failsIn", "(II)V"⟩
noncomputable abbrev cX8_isBad : ByteArray := prog_10_method_82_code
noncomputable def yX8_isBad : MethodName := ⟨RX8, "isBad", "(I)Z"⟩
noncomputable abbrev cX8_works : ByteArray := prog_10_method_83_code
noncomputable def yX8_works : MethodName := ⟨RX8, "works", "(I)V"⟩
noncomputable abbrev cX8_goesOn : ByteArray := prog_10_method_84_code
noncomputable def yX8_goesOn : MethodName := ⟨RX8, "goesOn", "(I)V"⟩
noncomputable abbrev cX8_stationPasses : ByteArray := prog_10_method_85_code
noncomputable def yX8_stationPasses : MethodName := ⟨RX8, "stationPasses", "(I)V"⟩
noncomputable abbrev cX8_isReady : ByteArray := prog_10_method_86_code
noncomputable def yX8_isReady : MethodName := ⟨RX8, "isReady", "(I)Z"⟩
noncomputable abbrev cX8_feeds : ByteArray := prog_10_method_87_code
noncomputable def yX8_feeds : MethodName := ⟨RX8, "feeds", "()V"⟩
noncomputable abbrev cX8_clearsTray : ByteArray := prog_10_method_88_code
noncomputable def yX8_clearsTray : MethodName := ⟨RX8, "clearsTray", "()V"⟩
noncomputable abbrev cX8_dayEnds : ByteArray := prog_10_method_89_code
noncomputable def yX8_dayEnds : MethodName := ⟨RX8, "dayEnds", "()V"⟩
noncomputable abbrev cX8_passes : ByteArray := prog_10_method_90_code
noncomputable def yX8_passes : MethodName := ⟨RX8, "passes", "()V"⟩
noncomputable abbrev cX8_keeps : ByteArray := prog_10_method_91_code
noncomputable def yX8_keeps : MethodName := ⟨RX8, "keeps", "()V"⟩
noncomputable abbrev cX8_undo : ByteArray := prog_10_method_92_code
noncomputable def yX8_undo : MethodName := ⟨RX8, "undo", "()I"⟩
noncomputable abbrev cX8_giveUp : ByteArray := prog_10_method_93_code
noncomputable def yX8_giveUp : MethodName := ⟨RX8, "giveUp", "(I)I"⟩
noncomputable abbrev cX8_puts : ByteArray := prog_10_method_94_code
noncomputable def yX8_puts : MethodName := ⟨RX8, "puts", "(II)I"⟩
noncomputable abbrev cX8_setRank : ByteArray := prog_10_method_95_code
noncomputable def yX8_setRank : MethodName := ⟨RX8, "setRank", "(II)I"⟩
noncomputable abbrev cX8_refill : ByteArray := prog_10_method_96_code
noncomputable def yX8_refill : MethodName := ⟨RX8, "refill", "(I)I"⟩
noncomputable abbrev cX8_setPace : ByteArray := prog_10_method_97_code
noncomputable def yX8_setPace : MethodName := ⟨RX8, "setPace", "(II)I"⟩
noncomputable abbrev cX8_stop : ByteArray := prog_10_method_98_code
noncomputable def yX8_stop : MethodName := ⟨RX8, "stop", "(IZ)I"⟩
noncomputable abbrev cX8_setRest : ByteArray := prog_10_method_99_code
noncomputable def yX8_setRest : MethodName := ⟨RX8, "setRest", "(III)I"⟩
noncomputable abbrev cX8_rush : ByteArray := prog_10_method_100_code
noncomputable def yX8_rush : MethodName := ⟨RX8, "rush", "(I)I"⟩
noncomputable abbrev cX8_swap : ByteArray := prog_10_method_101_code
noncomputable def yX8_swap : MethodName := ⟨RX8, "swap", "(II)I"⟩
noncomputable abbrev cX8_setTries : ByteArray := prog_10_method_102_code
noncomputable def yX8_setTries : MethodName := ⟨RX8, "setTries", "(I)I"⟩
noncomputable abbrev cX8_setTray : ByteArray := prog_10_method_103_code
noncomputable def yX8_setTray : MethodName := ⟨RX8, "setTray", "(I)I"⟩
noncomputable abbrev cX8_run : ByteArray := prog_10_method_104_code
noncomputable def yX8_run : MethodName := ⟨RX8, "run", "(I)I"⟩
noncomputable abbrev cX8_runToLeave : ByteArray := prog_10_method_105_code
noncomputable def yX8_runToLeave : MethodName := ⟨RX8, "runToLeave", "(I)I"⟩
noncomputable abbrev cX8_areFinished : ByteArray := prog_10_method_106_code
noncomputable def yX8_areFinished : MethodName := ⟨RX8, "areFinished", "(I)Z"⟩
noncomputable abbrev cX8_isMet : ByteArray := prog_10_method_107_code
noncomputable def yX8_isMet : MethodName := ⟨RX8, "isMet", "(III)Z"⟩
noncomputable abbrev cX8_goes : ByteArray := prog_10_method_108_code
noncomputable def yX8_goes : MethodName := ⟨RX8, "goes", "(II)I"⟩
noncomputable abbrev cX8_behind : ByteArray := prog_10_method_109_code
noncomputable def yX8_behind : MethodName := ⟨RX8, "behind", "(II)I"⟩
noncomputable abbrev cX8_leavesIn : ByteArray := prog_10_method_110_code
noncomputable def yX8_leavesIn : MethodName := ⟨RX8, "leavesIn", "(I)I"⟩
noncomputable abbrev cX8_lotIn : ByteArray := prog_10_method_111_code
noncomputable def yX8_lotIn : MethodName := ⟨RX8, "lotIn", "(I)I"⟩
noncomputable abbrev cX8_allIn : ByteArray := prog_10_method_112_code
noncomputable def yX8_allIn : MethodName := ⟨RX8, "allIn", "()I"⟩
noncomputable abbrev cX8_then : ByteArray := prog_10_method_113_code
noncomputable def yX8_then : MethodName := ⟨RX8, "then", "(II)I"⟩
noncomputable abbrev cX8_leftIn : ByteArray := prog_10_method_114_code
noncomputable def yX8_leftIn : MethodName := ⟨RX8, "leftIn", "(I)I"⟩
noncomputable abbrev cX8_failIn : ByteArray := prog_10_method_115_code
noncomputable def yX8_failIn : MethodName := ⟨RX8, "failIn", "(I)I"⟩
noncomputable abbrev cX8_blanksIn : ByteArray := prog_10_method_116_code
noncomputable def yX8_blanksIn : MethodName := ⟨RX8, "blanksIn", "(I)I"⟩
noncomputable abbrev cX8_restIn : ByteArray := prog_10_method_117_code
noncomputable def yX8_restIn : MethodName := ⟨RX8, "restIn", "(I)I"⟩
noncomputable abbrev cX8_lotBy : ByteArray := prog_10_method_118_code
noncomputable def yX8_lotBy : MethodName := ⟨RX8, "lotBy", "(I)I"⟩
noncomputable abbrev cX8_bestOf : ByteArray := prog_10_method_119_code
noncomputable def yX8_bestOf : MethodName := ⟨RX8, "bestOf", "(IIIII)I"⟩
noncomputable abbrev cX8_bestRank : ByteArray := prog_10_method_120_code
noncomputable def yX8_bestRank : MethodName := ⟨RX8, "bestRank", "(I)I"⟩
noncomputable abbrev cX8_bestTray : ByteArray := prog_10_method_121_code
noncomputable def yX8_bestTray : MethodName := ⟨RX8, "bestTray", "()I"⟩
noncomputable abbrev cX8_writeCard : ByteArray := prog_10_method_122_code
noncomputable def yX8_writeCard : MethodName := ⟨RX8, "writeCard", "(I)I"⟩
noncomputable abbrev cX8_outputByte : ByteArray := prog_10_method_123_code
noncomputable def yX8_outputByte : MethodName := ⟨RX8, "outputByte", "(I)I"⟩
noncomputable abbrev cX8_saveSnapshot : ByteArray := prog_10_method_124_code
noncomputable def yX8_saveSnapshot : MethodName := ⟨RX8, "saveSnapshot", "(I)I"⟩
noncomputable abbrev cX8_restoreSnapshot : ByteArray := prog_10_method_125_code
noncomputable def yX8_restoreSnapshot : MethodName := ⟨RX8, "restoreSnapshot", "(I)I"⟩
noncomputable def RJx29ce0 : String := "java/lang/Enum"
noncomputable abbrev cJx29ce0_ordinal_8abf5 : ByteArray := prog_13_method_2_code
noncomputable def yJx29ce0_ordinal_8abf5 : MethodName := ⟨RJx29ce0, "ordinal", "()I"⟩
noncomputable def RJ0 : String := "java/lang/String"
noncomputable def TJ0 : u_T := fun k => match k with
  | 0 => ("java/lang/String", "value", "[B", true)
  | 1 => ("java/lang/String", "coder", "B", true)
  | 2 => ("java/lang/String", "hash", "I", false)
  | _ => ("java/lang/String", "hashIsZero", "Z", false)
noncomputable abbrev wsJ00 : List Cond := u_ws RJ0 TJ0 4
noncomputable abbrev cJ0_length_8abf5 : ByteArray := prog_21_method_54_code
noncomputable def yJ0_length_8abf5 : MethodName := ⟨RJ0, "length", "()I"⟩
noncomputable abbrev cJ0_charAt_5068e : ByteArray := prog_21_method_56_code
noncomputable def yJ0_charAt_5068e : MethodName := ⟨RJ0, "charAt", "(I)C"⟩
noncomputable abbrev cJ0_coder_7d493 : ByteArray := prog_21_method_152_code
noncomputable def yJ0_coder_7d493 : MethodName := ⟨RJ0, "coder", "()B"⟩
noncomputable abbrev cJ0_isLatin1_aae02 : ByteArray := prog_21_method_154_code
noncomputable def yJ0_isLatin1_aae02 : MethodName := ⟨RJ0, "isLatin1", "()Z"⟩
noncomputable abbrev cJ0_checkIndex_df160 : ByteArray := prog_21_method_155_code
noncomputable def yJ0_checkIndex_df160 : MethodName := ⟨RJ0, "checkIndex", "(II)V"⟩
noncomputable def RJ4 : String := "java/lang/StringBuilder"
noncomputable def TJ4 : u_T := fun k => match k with
  | 0 => ("java/lang/AbstractStringBuilder", "value", "[B", false)
  | 1 => ("java/lang/AbstractStringBuilder", "coder", "B", false)
  | 2 => ("java/lang/AbstractStringBuilder", "maybeLatin1", "Z", false)
  | _ => ("java/lang/AbstractStringBuilder", "count", "I", false)
noncomputable abbrev wsJ40 : List Cond := u_ws RJ4 TJ4 4
noncomputable def RJ1 : String := "java/lang/StringLatin1"
noncomputable abbrev cJ1_charAt_3b067 : ByteArray := prog_23_method_2_code
noncomputable def yJ1_charAt_3b067 : MethodName := ⟨RJ1, "charAt", "([BI)C"⟩
noncomputable def RJ2 : String := "java/lang/StringUTF16"
noncomputable abbrev cJ2_getChar_3b067 : ByteArray := prog_24_method_5_code
noncomputable def yJ2_getChar_3b067 : MethodName := ⟨RJ2, "getChar", "([BI)C"⟩
noncomputable abbrev cJ2_length_9d52b : ByteArray := prog_24_method_6_code
noncomputable def yJ2_length_9d52b : MethodName := ⟨RJ2, "length", "([B)I"⟩
noncomputable abbrev cJ2_charAt_3b067 : ByteArray := prog_24_method_83_code
noncomputable def yJ2_charAt_3b067 : MethodName := ⟨RJ2, "charAt", "([BI)C"⟩
noncomputable abbrev cJ2_checkIndex_2214a : ByteArray := prog_24_method_91_code
noncomputable def yJ2_checkIndex_2214a : MethodName := ⟨RJ2, "checkIndex", "(I[B)V"⟩
noncomputable def RJ7 : String := "java/util/Arrays"
noncomputable abbrev cJ7_fill_53178 : ByteArray := prog_27_method_103_code
noncomputable def yJ7_fill_53178 : MethodName := ⟨RJ7, "fill", "([II)V"⟩
noncomputable abbrev cJ7_copyOf_9075b : ByteArray := prog_27_method_121_code
noncomputable def yJ7_copyOf_9075b : MethodName := ⟨RJ7, "copyOf", "([BI)[B"⟩
noncomputable abbrev cJ7_checkLength_df160 : ByteArray := prog_27_method_131_code
noncomputable def yJ7_checkLength_df160 : MethodName := ⟨RJ7, "checkLength", "(II)V"⟩
noncomputable abbrev cJ7_copyOfRange_39247 : ByteArray := prog_27_method_132_code
noncomputable def yJ7_copyOfRange_39247 : MethodName := ⟨RJ7, "copyOfRange", "([BII)[B"⟩
noncomputable abbrev cJ7_copyOfRangeByte_39247 : ByteArray := prog_27_method_133_code
noncomputable def yJ7_copyOfRangeByte_39247 : MethodName := ⟨RJ7, "copyOfRangeByte", "([BII)[B"⟩
noncomputable def RJ3 : String := "jdk/internal/util/Preconditions"
noncomputable abbrev cJ3_checkIndex_8e157 : ByteArray := prog_29_method_11_code
noncomputable def yJ3_checkIndex_8e157 : MethodName := ⟨RJ3, "checkIndex", "(IILjava/util/function/BiFunction;)I"⟩
noncomputable def RL : String := "CardLineLaw"
noncomputable abbrev cL_count : ByteArray := method_3_code
noncomputable def yL_count : MethodName := ⟨RL, "count", "(LCardLine;I[J)I"⟩
noncomputable abbrev cL_setting : ByteArray := method_4_code
noncomputable def yL_setting : MethodName := ⟨RL, "setting", "(LCardLine;I[J)I"⟩
noncomputable abbrev cL_station : ByteArray := method_5_code
noncomputable def yL_station : MethodName := ⟨RL, "station", "(LCardLine;II[J)I"⟩
noncomputable abbrev cL_card : ByteArray := method_6_code
noncomputable def yL_card : MethodName := ⟨RL, "card", "(LCardLine;II[J)I"⟩
noncomputable abbrev cL_letter : ByteArray := method_7_code
noncomputable def yL_letter : MethodName := ⟨RL, "letter", "(LCardLine;II[J)I"⟩
noncomputable abbrev cL_lot : ByteArray := method_8_code
noncomputable def yL_lot : MethodName := ⟨RL, "lot", "(LCardLine;II[J)I"⟩
noncomputable abbrev cL_cardOf : ByteArray := method_9_code
noncomputable def yL_cardOf : MethodName := ⟨RL, "cardOf", "(LCardLine;II[J)I"⟩
noncomputable abbrev cL_steps : ByteArray := method_10_code
noncomputable def yL_steps : MethodName := ⟨RL, "steps", "(LCardLine;II[J)I"⟩
noncomputable abbrev cL_ticksFor : ByteArray := method_11_code
noncomputable def yL_ticksFor : MethodName := ⟨RL, "ticksFor", "(LCardLine;II[J)I"⟩
noncomputable abbrev cL_day : ByteArray := method_12_code
noncomputable def yL_day : MethodName := ⟨RL, "day", "(LCardLine;III[J)I"⟩
noncomputable abbrev cL_today : ByteArray := method_13_code
noncomputable def yL_today : MethodName := ⟨RL, "today", "(LCardLine;II[J)I"⟩
noncomputable abbrev cL_total : ByteArray := method_14_code
noncomputable def yL_total : MethodName := ⟨RL, "total", "(LCardLine;I[J)I"⟩
noncomputable abbrev cL_busyPart : ByteArray := method_15_code
noncomputable def yL_busyPart : MethodName := ⟨RL, "busyPart", "(LCardLine;I[D)I"⟩
noncomputable abbrev cL_order : ByteArray := method_16_code
noncomputable def yL_order : MethodName := ⟨RL, "order", "(LCardLine;I[J)I"⟩
noncomputable abbrev cL_giveUp : ByteArray := method_17_code
noncomputable def yL_giveUp : MethodName := ⟨RL, "giveUp", "(LCardLine;I[J)I"⟩
noncomputable abbrev cL_setRank : ByteArray := method_18_code
noncomputable def yL_setRank : MethodName := ⟨RL, "setRank", "(LCardLine;II[J)I"⟩
noncomputable abbrev cL_refill : ByteArray := method_19_code
noncomputable def yL_refill : MethodName := ⟨RL, "refill", "(LCardLine;I[J)I"⟩
noncomputable abbrev cL_setPace : ByteArray := method_20_code
noncomputable def yL_setPace : MethodName := ⟨RL, "setPace", "(LCardLine;II[J)I"⟩
noncomputable abbrev cL_stop : ByteArray := method_21_code
noncomputable def yL_stop : MethodName := ⟨RL, "stop", "(LCardLine;IZ[J)I"⟩
noncomputable abbrev cL_setRest : ByteArray := method_22_code
noncomputable def yL_setRest : MethodName := ⟨RL, "setRest", "(LCardLine;III[J)I"⟩
noncomputable abbrev cL_rush : ByteArray := method_23_code
noncomputable def yL_rush : MethodName := ⟨RL, "rush", "(LCardLine;I[J)I"⟩
noncomputable abbrev cL_swap : ByteArray := method_24_code
noncomputable def yL_swap : MethodName := ⟨RL, "swap", "(LCardLine;II[J)I"⟩
noncomputable abbrev cL_setTries : ByteArray := method_25_code
noncomputable def yL_setTries : MethodName := ⟨RL, "setTries", "(LCardLine;I[J)I"⟩
noncomputable abbrev cL_setTray : ByteArray := method_26_code
noncomputable def yL_setTray : MethodName := ⟨RL, "setTray", "(LCardLine;I[J)I"⟩
noncomputable abbrev cL_run : ByteArray := method_27_code
noncomputable def yL_run : MethodName := ⟨RL, "run", "(LCardLine;I[J)I"⟩
noncomputable abbrev cL_runToLeave : ByteArray := method_28_code
noncomputable def yL_runToLeave : MethodName := ⟨RL, "runToLeave", "(LCardLine;I[J)I"⟩
noncomputable abbrev cL_leavesIn : ByteArray := method_29_code
noncomputable def yL_leavesIn : MethodName := ⟨RL, "leavesIn", "(LCardLine;I[J)I"⟩
noncomputable abbrev cL_lotIn : ByteArray := method_30_code
noncomputable def yL_lotIn : MethodName := ⟨RL, "lotIn", "(LCardLine;I[J)I"⟩
noncomputable abbrev cL_leftIn : ByteArray := method_31_code
noncomputable def yL_leftIn : MethodName := ⟨RL, "leftIn", "(LCardLine;I[J)I"⟩
noncomputable abbrev cL_failIn : ByteArray := method_32_code
noncomputable def yL_failIn : MethodName := ⟨RL, "failIn", "(LCardLine;I[J)I"⟩
noncomputable abbrev cL_blanksIn : ByteArray := method_33_code
noncomputable def yL_blanksIn : MethodName := ⟨RL, "blanksIn", "(LCardLine;I[J)I"⟩
noncomputable abbrev cL_restIn : ByteArray := method_34_code
noncomputable def yL_restIn : MethodName := ⟨RL, "restIn", "(LCardLine;I[J)I"⟩
noncomputable abbrev cL_bestRank : ByteArray := method_35_code
noncomputable def yL_bestRank : MethodName := ⟨RL, "bestRank", "(LCardLine;I[J)I"⟩
noncomputable abbrev cL_writeCard : ByteArray := method_36_code
noncomputable def yL_writeCard : MethodName := ⟨RL, "writeCard", "(LCardLine;I[J)I"⟩
noncomputable abbrev cL_saveSnapshot : ByteArray := method_37_code
noncomputable def yL_saveSnapshot : MethodName := ⟨RL, "saveSnapshot", "(LCardLine;I[J)I"⟩
noncomputable abbrev cL_restoreSnapshot : ByteArray := method_38_code
noncomputable def yL_restoreSnapshot : MethodName := ⟨RL, "restoreSnapshot", "(LCardLine;I[J)I"⟩
noncomputable abbrev cL_law : ByteArray := code
noncomputable def wsL_law0_r1 : List Cond := [Cond.classLink RL 8 RX7, Cond.instantiable RX7 12, Cond.initialized RX7, Cond.classLink RL 127 RX8, Cond.instantiable RX8 23, Cond.initialized RX8, Cond.arrayClass .long, Cond.arrayClass .double, Cond.constantLong RL 130 (4294967295), Cond.methodLink RL 126 yX7_init, Cond.instanceMethod yX7_init, Cond.code yX7_init cX7_init 1 none, Cond.methodLink RX7 1 objectInit, Cond.instanceMethod objectInit, Cond.code objectInit ⟨#[0xb1]⟩ 1 none, Cond.classLink RX7 7 RX3, Cond.instantiable RX3 17, Cond.initialized RX3, Cond.fieldLink RX7 10 "CardLine" "line" "LCardLine$Line;", Cond.fieldLink RX7 16 "CardLine" "scratch" "LCardLine$Line;", Cond.classLink RX7 19 RX5, Cond.instantiable RX5 11, Cond.initialized RX5, Cond.fieldLink RX7 22 "CardLine" "reader" "LCardLine$Reader;"]
noncomputable def wsL_law0_r2 : List Cond := [Cond.arrayClass .byte, Cond.fieldLink RX7 26 "CardLine" "output" "[B", Cond.fieldLink RX7 30 "CardLine" "past" "[LCardLine$Line;", Cond.fieldLink RX7 34 "CardLine" "saved" "[LCardLine$Line;", Cond.arrayClass .int, Cond.fieldLink RX7 37 "CardLine" "finishTimes" "[I", Cond.fieldLink RX7 41 "CardLine" "outputLength" "I", Cond.fieldLink RX7 45 "CardLine" "errorKind" "I", Cond.fieldLink RX7 48 "CardLine" "errorStatement" "I", Cond.fieldLink RX7 51 "CardLine" "oldestPast" "I", Cond.fieldLink RX7 54 "CardLine" "pastCount" "I", Cond.methodLink RX7 9 yX3_init, Cond.instanceMethod yX3_init, Cond.code yX3_init cX3_init 2 none, Cond.methodLink RX3 3 objectInit, Cond.fieldLink RX3 9 "CardLine$Line" "dayLength" "I", Cond.classLink RX3 15 RX6, Cond.fieldLink RX3 17 "CardLine$Line" "stations" "[LCardLine$Station;", Cond.classLink RX3 21 RX4, Cond.fieldLink RX3 23 "CardLine$Line" "lots" "[LCardLine$Lot;", Cond.classLink RX3 27 RX1, Cond.fieldLink RX3 29 "CardLine$Line" "cards" "[LCardLine$Card;", Cond.fieldLink RX3 33 "CardLine$Line" "inState" "[I", Cond.fieldLink RX3 37 "CardLine$Line" "leftCards" "[I"]
noncomputable def wsL_law0_r3 : List Cond := [Cond.fieldLink RX3 40 "CardLine$Line" "totals" "[I", Cond.instantiable RX6 15, Cond.initialized RX6, Cond.instantiable RX4 12, Cond.initialized RX4, Cond.instantiable RX1 9, Cond.initialized RX1, Cond.instanceMethod yX6_init, Cond.code yX6_init cX6_init 1 none, Cond.methodLink RX6 3 objectInit, Cond.fieldLink RX6 13 "CardLine$Station" "script" "[B", Cond.instanceMethod yX4_init, Cond.code yX4_init cX4_init 1 none, Cond.methodLink RX4 3 objectInit, Cond.fieldLink RX4 9 "CardLine$Lot" "byPlace" "[I", Cond.fieldLink RX4 15 "CardLine$Lot" "dayLeft" "[I", Cond.fieldLink RX4 18 "CardLine$Lot" "dayFails" "[I", Cond.instanceMethod yX1_init, Cond.code yX1_init cX1_init 1 none, Cond.methodLink RX1 3 objectInit, Cond.fieldLink RX1 13 "CardLine$Card" "text" "[B", Cond.instanceMethod yX5_init, Cond.code yX5_init cX5_init 1 none, Cond.methodLink RX5 3 objectInit]
noncomputable def wsL_law0_r4 : List Cond := [Cond.fieldLink RX5 9 "CardLine$Reader" "text" "[B", Cond.fieldLink RX5 15 "CardLine$Reader" "letters" "[B", Cond.fieldLink RX5 18 "CardLine$Reader" "rowStart" "[I", Cond.fieldLink RX5 22 "CardLine$Reader" "rowTimes" "[I", Cond.methodLink RX7 57 yX3_begin, Cond.instanceMethod yX3_begin, Cond.selects RX3 yX3_begin yX3_begin, Cond.code yX3_begin cX3_begin 5 none, Cond.fieldLink RX3 46 "CardLine$Line" "blanksTold" "I", Cond.fieldLink RX3 49 "CardLine$Line" "blanksAdded" "I", Cond.fieldLink RX3 52 "CardLine$Line" "blanks" "I", Cond.fieldLink RX3 55 "CardLine$Line" "trayPlaces" "I", Cond.fieldLink RX3 58 "CardLine$Line" "tries" "I", Cond.fieldLink RX3 61 "CardLine$Line" "time" "I", Cond.fieldLink RX3 64 "CardLine$Line" "stationCount" "I", Cond.fieldLink RX3 67 "CardLine$Line" "lotCount" "I", Cond.fieldLink RX3 70 "CardLine$Line" "cardCount" "I", Cond.methodLink RX3 73 yJ7_fill_53178, Cond.static yJ7_fill_53178, Cond.initialized RJ7, Cond.code yJ7_fill_53178 cJ7_fill_53178 4 none, Cond.methodLink RL 129 yX8_init, Cond.instanceMethod yX8_init, Cond.code yX8_init cX8_init 1 none]
noncomputable def wsL_law0_r5 : List Cond := [Cond.methodLink RX8 3 objectInit, Cond.fieldLink RX8 9 "CardLineModel" "now" "[I", Cond.fieldLink RX8 13 "CardLineModel" "aside" "[I", Cond.fieldLink RX8 16 "CardLineModel" "past" "[I", Cond.fieldLink RX8 19 "CardLineModel" "copies" "[I", Cond.arrayClass .boolean, Cond.fieldLink RX8 22 "CardLineModel" "isSaved" "[Z", Cond.fieldLink RX8 26 "CardLineModel" "buffer" "[B", Cond.fieldLink RX8 30 "CardLineModel" "lastStatement" "I", Cond.fieldLink RX8 34 "CardLineModel" "letters" "[I", Cond.fieldLink RX8 37 "CardLineModel" "rowAt" "[I", Cond.fieldLink RX8 40 "CardLineModel" "ends" "[I", Cond.fieldLink RX8 43 "CardLineModel" "output" "[B", Cond.methodLink RX8 46 yX8_begins, Cond.instanceMethod yX8_begins, Cond.selects RX8 yX8_begins yX8_begins, Cond.code yX8_begins cX8_begins 2 none, Cond.methodLink RL 132 yX7_append, Cond.instanceMethod yX7_append, Cond.selects RX7 yX7_append yX7_append, Cond.code yX7_append cX7_append 3 (some .int), Cond.fieldLink RX7 65 "CardLine$Reader" "length" "I", Cond.methodLink RX7 61 yX5_add, Cond.instanceMethod yX5_add]
noncomputable def wsL_law0_r6 : List Cond := [Cond.selects RX5 yX5_add yX5_add, Cond.code yX5_add cX5_add 6 (some .boolean), Cond.fieldLink RX5 25 "CardLine$Reader" "length" "I", Cond.methodLink RL 136 yX8_append, Cond.instanceMethod yX8_append, Cond.selects RX8 yX8_append yX8_append, Cond.code yX8_append cX8_append 5 (some .int), Cond.fieldLink RX8 49 "CardLineModel" "thrown" "I", Cond.fieldLink RX8 62 "CardLineModel" "length" "I", Cond.methodLink RX8 58 yX8_byteOf, Cond.static yX8_byteOf, Cond.code yX8_byteOf cX8_byteOf 3 (some .int), Cond.constantLong RX8 56 (255), Cond.methodLink RL 137 yX7_load, Cond.instanceMethod yX7_load, Cond.selects RX7 yX7_load yX7_load, Cond.code yX7_load cX7_load 1 (some .int), Cond.fieldLink RX7 75 "CardLine$Reader" "errorPlace" "I", Cond.fieldLink RX7 81 "CardLine$Line" "stationCount" "I", Cond.methodLink RX7 68 yX5_readDescription, Cond.instanceMethod yX5_readDescription, Cond.selects RX5 yX5_readDescription yX5_readDescription, Cond.code yX5_readDescription cX5_readDescription 3 none, Cond.fieldLink RX5 38 "CardLine$Reader" "statement" "I"]
noncomputable def wsL_law0_r7 : List Cond := [Cond.methodLink RX5 41 yX5_start, Cond.instanceMethod yX5_start, Cond.selects RX5 yX5_start yX5_start, Cond.code yX5_start cX5_start 1 none, Cond.fieldLink RX5 29 "CardLine$Reader" "at" "I", Cond.fieldLink RX5 32 "CardLine$Reader" "errorKind" "I", Cond.fieldLink RX5 35 "CardLine$Reader" "errorPlace" "I", Cond.methodLink RX5 44 yX5_readStatement, Cond.instanceMethod yX5_readStatement, Cond.selects RX5 yX5_readStatement yX5_readStatement, Cond.code yX5_readStatement cX5_readStatement 4 none, Cond.methodLink RX5 52 yX5_skipSpaces, Cond.instanceMethod yX5_skipSpaces, Cond.selects RX5 yX5_skipSpaces yX5_skipSpaces, Cond.code yX5_skipSpaces cX5_skipSpaces 1 (some .int), Cond.methodLink RX5 63 yX5_readWord, Cond.instanceMethod yX5_readWord, Cond.selects RX5 yX5_readWord yX5_readWord, Cond.code yX5_readWord cX5_readWord 2 (some .int), Cond.methodLink RX5 140 yX5_isLetter, Cond.static yX5_isLetter, Cond.code yX5_isLetter cX5_isLetter 1 (some .boolean), Cond.methodLink RX5 146 yX5_stands, Cond.instanceMethod yX5_stands]
noncomputable def wsL_law0_r8 : List Cond := [Cond.selects RX5 yX5_stands yX5_stands, Cond.code yX5_stands cX5_stands 4 (some .boolean), Cond.methodLink RX5 164 yJ0_length_8abf5, Cond.instanceMethod yJ0_length_8abf5, Cond.selects RJ0 yJ0_length_8abf5 yJ0_length_8abf5, Cond.initialized RJ0, Cond.code yJ0_length_8abf5 cJ0_length_8abf5 1 (some .int), Cond.fieldLink RJ0 9 "java/lang/String" "value" "[B", Cond.methodLink RJ0 335 yJ0_coder_7d493, Cond.instanceMethod yJ0_coder_7d493, Cond.selects RJ0 yJ0_coder_7d493 yJ0_coder_7d493, Cond.code yJ0_coder_7d493 cJ0_coder_7d493 1 (some .byte), Cond.fieldLink RJ0 38 "java/lang/String" "COMPACT_STRINGS" "Z", Cond.fieldLink RJ0 15 "java/lang/String" "coder" "B", Cond.methodLink RX5 168 yJ0_charAt_5068e, Cond.instanceMethod yJ0_charAt_5068e, Cond.selects RJ0 yJ0_charAt_5068e yJ0_charAt_5068e, Cond.code yJ0_charAt_5068e cJ0_charAt_5068e 2 (some .char), Cond.methodLink RJ0 492 yJ0_isLatin1_aae02, Cond.instanceMethod yJ0_isLatin1_aae02, Cond.selects RJ0 yJ0_isLatin1_aae02 yJ0_isLatin1_aae02, Cond.code yJ0_isLatin1_aae02 cJ0_isLatin1_aae02 1 (some .boolean), Cond.methodLink RJ0 495 yJ1_charAt_3b067, Cond.static yJ1_charAt_3b067]
noncomputable def wsL_law0_r9 : List Cond := [Cond.initialized RJ1, Cond.code yJ1_charAt_3b067 cJ1_charAt_3b067 2 (some .char), Cond.methodLink RJ1 9 yJ0_checkIndex_df160, Cond.static yJ0_checkIndex_df160, Cond.code yJ0_checkIndex_df160 cJ0_checkIndex_df160 2 none, Cond.fieldLink RJ0 1053 "jdk/internal/util/Preconditions" "SIOOBE_FORMATTER" "Ljava/util/function/BiFunction;", Cond.methodLink RJ0 1059 yJ3_checkIndex_8e157, Cond.static yJ3_checkIndex_8e157, Cond.initialized RJ3, Cond.code yJ3_checkIndex_8e157 cJ3_checkIndex_8e157 3 (some .int), Cond.methodLink RJ0 498 yJ2_charAt_3b067, Cond.static yJ2_charAt_3b067, Cond.initialized RJ2, Cond.code yJ2_charAt_3b067 cJ2_charAt_3b067 2 (some .char), Cond.methodLink RJ2 67 yJ2_checkIndex_2214a, Cond.static yJ2_checkIndex_2214a, Cond.code yJ2_checkIndex_2214a cJ2_checkIndex_2214a 2 none, Cond.methodLink RJ2 48 yJ2_length_9d52b, Cond.static yJ2_length_9d52b, Cond.code yJ2_length_9d52b cJ2_length_9d52b 1 (some .int), Cond.methodLink RJ2 414 yJ0_checkIndex_df160, Cond.methodLink RJ2 71 yJ2_getChar_3b067, Cond.static yJ2_getChar_3b067, Cond.code yJ2_getChar_3b067 cJ2_getChar_3b067 2 (some .char)]
noncomputable def wsL_law0_r10 : List Cond := [Cond.fieldLink RJ2 44 "java/lang/StringUTF16" "$assertionsDisabled" "Z", Cond.fieldLink RJ2 59 "java/lang/StringUTF16" "HI_BYTE_SHIFT" "I", Cond.fieldLink RJ2 63 "java/lang/StringUTF16" "LO_BYTE_SHIFT" "I", Cond.methodLink RX5 59 yX5_error, Cond.instanceMethod yX5_error, Cond.selects RX5 yX5_error yX5_error, Cond.code yX5_error cX5_error 3 none, Cond.methodLink RX5 66 yX5_readLine, Cond.instanceMethod yX5_readLine, Cond.selects RX5 yX5_readLine yX5_readLine, Cond.code yX5_readLine cX5_readLine 6 none, Cond.methodLink RX5 83 yX5_readNumber, Cond.instanceMethod yX5_readNumber, Cond.selects RX5 yX5_readNumber yX5_readNumber, Cond.code yX5_readNumber cX5_readNumber 5 (some .int), Cond.constant RX5 175 (1000000), Cond.methodLink RX5 176 Lib.Math.min.name, Cond.static Lib.Math.min.name, Cond.initialized "java/lang/Math", Cond.code Lib.Math.min.name Lib.Math.min.code 2 (some .int), Cond.methodLink RX5 172 yX5_isDigit, Cond.static yX5_isDigit, Cond.code yX5_isDigit cX5_isDigit 1 (some .boolean), Cond.methodLink RX5 56 yX5_isFine]
noncomputable def wsL_law0_r11 : List Cond := [Cond.instanceMethod yX5_isFine, Cond.selects RX5 yX5_isFine yX5_isFine, Cond.code yX5_isFine cX5_isFine 1 (some .boolean), Cond.methodLink RX5 87 yX3_begin, Cond.methodLink RX5 69 yX5_readRest, Cond.instanceMethod yX5_readRest, Cond.selects RX5 yX5_readRest yX5_readRest, Cond.code yX5_readRest cX5_readRest 5 none, Cond.fieldLink RX5 93 "CardLine$Line" "stationCount" "I", Cond.fieldLink RX5 108 "CardLine$Line" "stations" "[LCardLine$Station;", Cond.fieldLink RX5 112 "CardLine$Station" "restAfter" "I", Cond.fieldLink RX5 117 "CardLine$Station" "restTicks" "I", Cond.methodLink RX5 72 yX5_readLot, Cond.instanceMethod yX5_readLot, Cond.selects RX5 yX5_readLot yX5_readLot, Cond.code yX5_readLot cX5_readLot 4 none, Cond.fieldLink RX5 120 "CardLine$Line" "lotCount" "I", Cond.methodLink RX5 123 yX3_addLot, Cond.instanceMethod yX3_addLot, Cond.selects RX3 yX3_addLot yX3_addLot, Cond.code yX3_addLot cX3_addLot 2 none, Cond.methodLink RX3 99 yX4_begin, Cond.instanceMethod yX4_begin, Cond.selects RX4 yX4_begin yX4_begin]
noncomputable def wsL_law0_r12 : List Cond := [Cond.code yX4_begin cX4_begin 2 none, Cond.fieldLink RX4 21 "CardLine$Lot" "rank" "I", Cond.fieldLink RX4 25 "CardLine$Lot" "size" "I", Cond.fieldLink RX4 28 "CardLine$Lot" "nextPlace" "I", Cond.fieldLink RX4 31 "CardLine$Lot" "left" "I", Cond.fieldLink RX4 34 "CardLine$Lot" "givenUp" "I", Cond.fieldLink RX4 37 "CardLine$Lot" "fails" "I", Cond.fieldLink RX4 40 "CardLine$Lot" "scraps" "I", Cond.fieldLink RX4 43 "CardLine$Lot" "todayLeft" "I", Cond.fieldLink RX4 46 "CardLine$Lot" "todayFails" "I", Cond.methodLink RX5 76 yX5_readCard, Cond.instanceMethod yX5_readCard, Cond.selects RX5 yX5_readCard yX5_readCard, Cond.code yX5_readCard cX5_readCard 4 none, Cond.fieldLink RX5 127 "CardLine$Line" "cardCount" "I", Cond.methodLink RX5 130 yX5_readText, Cond.instanceMethod yX5_readText, Cond.selects RX5 yX5_readText yX5_readText, Cond.code yX5_readText cX5_readText 5 none, Cond.fieldLink RX5 190 "CardLine$Reader" "letterCount" "I", Cond.fieldLink RX5 197 "CardLine$Reader" "depth" "I", Cond.methodLink RX5 200 yX5_readLetter, Cond.instanceMethod yX5_readLetter, Cond.selects RX5 yX5_readLetter yX5_readLetter]
noncomputable def wsL_law0_r13 : List Cond := [Cond.code yX5_readLetter cX5_readLetter 2 none, Cond.methodLink RX5 210 yX5_rowLength, Cond.instanceMethod yX5_rowLength, Cond.selects RX5 yX5_rowLength yX5_rowLength, Cond.code yX5_rowLength cX5_rowLength 3 (some .int), Cond.methodLink RX5 204 yX5_openGroup, Cond.instanceMethod yX5_openGroup, Cond.selects RX5 yX5_openGroup yX5_openGroup, Cond.code yX5_openGroup cX5_openGroup 3 none, Cond.methodLink RX5 207 yX5_closeGroup, Cond.instanceMethod yX5_closeGroup, Cond.selects RX5 yX5_closeGroup yX5_closeGroup, Cond.code yX5_closeGroup cX5_closeGroup 4 none, Cond.methodLink RX5 213 arraycopyName, Cond.native arraycopyName, Cond.static arraycopyName, Cond.initialized "java/lang/System", Cond.methodLink RX5 133 yX5_textRead, Cond.instanceMethod yX5_textRead, Cond.selects RX5 yX5_textRead yX5_textRead, Cond.code yX5_textRead cX5_textRead 1 (some (.array .byte)), Cond.methodLink RX5 193 yJ7_copyOf_9075b, Cond.static yJ7_copyOf_9075b, Cond.code yJ7_copyOf_9075b cJ7_copyOf_9075b 3 (some (.array .byte))]
noncomputable def wsL_law0_r14 : List Cond := [Cond.methodLink RJ7 310 ⟨"[B", "clone", "()Ljava/lang/Object;"⟩, Cond.sameMethod "[B" "java/lang/Object" "clone" "()Ljava/lang/Object;", Cond.native ⟨"java/lang/Object", "clone", "()Ljava/lang/Object;"⟩, Cond.instanceMethod ⟨"java/lang/Object", "clone", "()Ljava/lang/Object;"⟩, Cond.selects "[B" ⟨"[B", "clone", "()Ljava/lang/Object;"⟩ ⟨"java/lang/Object", "clone", "()Ljava/lang/Object;"⟩, Cond.classLink RJ7 311 "[B", Cond.methodLink RJ7 304 Lib.Math.min.name, Cond.methodLink RJ7 150 arraycopyName, Cond.methodLink RX5 136 yX3_addCard, Cond.instanceMethod yX3_addCard, Cond.selects RX3 yX3_addCard yX3_addCard, Cond.code yX3_addCard cX3_addCard 3 none, Cond.fieldLink RX3 102 "CardLine$Lot" "size" "I", Cond.fieldLink RX3 106 "CardLine$Lot" "byPlace" "[I", Cond.methodLink RX3 105 yX1_begin, Cond.instanceMethod yX1_begin, Cond.selects RX1 yX1_begin yX1_begin, Cond.code yX1_begin cX1_begin 4 none, Cond.fieldLink RX1 18 "CardLine$Card" "lot" "I", Cond.fieldLink RX1 22 "CardLine$Card" "place" "I", Cond.fieldLink RX1 25 "CardLine$Card" "state" "I", Cond.fieldLink RX1 28 "CardLine$Card" "station" "I", Cond.fieldLink RX1 31 "CardLine$Card" "fails" "I", Cond.fieldLink RX1 34 "CardLine$Card" "scraps" "I"]
noncomputable def wsL_law0_r15 : List Cond := [Cond.fieldLink RX1 37 "CardLine$Card" "leftTime" "I", Cond.fieldLink RX1 40 "CardLine$Card" "rushed" "Z", Cond.methodLink RX5 79 yX5_readStation, Cond.instanceMethod yX5_readStation, Cond.selects RX5 yX5_readStation yX5_readStation, Cond.code yX5_readStation cX5_readStation 6 none, Cond.static yX7_mostPace, Cond.code yX7_mostPace cX7_mostPace 1 (some .int), Cond.methodLink RX5 100 yX5_readScript, Cond.instanceMethod yX5_readScript, Cond.selects RX5 yX5_readScript yX5_readScript, Cond.code yX5_readScript cX5_readScript 3 (some (.array .byte)), Cond.methodLink RX5 181 yJ7_copyOfRange_39247, Cond.static yJ7_copyOfRange_39247, Cond.code yJ7_copyOfRange_39247 cJ7_copyOfRange_39247 3 (some (.array .byte)), Cond.methodLink RJ7 339 yJ7_copyOfRangeByte_39247, Cond.static yJ7_copyOfRangeByte_39247, Cond.code yJ7_copyOfRangeByte_39247 cJ7_copyOfRangeByte_39247 5 (some (.array .byte)), Cond.methodLink RJ7 343 yJ7_checkLength_df160, Cond.static yJ7_checkLength_df160, Cond.code yJ7_checkLength_df160 cJ7_checkLength_df160 2 none, Cond.classLink RJ7 45 RJ4, Cond.instantiable RJ4 4, Cond.initialized RJ4]
noncomputable def wsL_law0_r16 : List Cond := [Cond.methodLink RX5 104 yX3_addStation, Cond.instanceMethod yX3_addStation, Cond.selects RX3 yX3_addStation yX3_addStation, Cond.code yX3_addStation cX3_addStation 4 none, Cond.methodLink RX3 95 yX6_begin, Cond.instanceMethod yX6_begin, Cond.selects RX6 yX6_begin yX6_begin, Cond.code yX6_begin cX6_begin 4 none, Cond.fieldLink RX6 18 "CardLine$Station" "kind" "I", Cond.fieldLink RX6 22 "CardLine$Station" "pace" "I", Cond.fieldLink RX6 25 "CardLine$Station" "card" "I", Cond.fieldLink RX6 28 "CardLine$Station" "need" "I", Cond.fieldLink RX6 31 "CardLine$Station" "signsUsed" "I", Cond.fieldLink RX6 34 "CardLine$Station" "signsSinceRest" "I", Cond.fieldLink RX6 37 "CardLine$Station" "fails" "I", Cond.fieldLink RX6 40 "CardLine$Station" "wentOn" "I", Cond.fieldLink RX6 43 "CardLine$Station" "stopped" "Z", Cond.fieldLink RX6 47 "CardLine$Station" "wheelLetter" "I", Cond.fieldLink RX6 50 "CardLine$Station" "restAfter" "I", Cond.fieldLink RX6 53 "CardLine$Station" "restTicks" "I", Cond.fieldLink RX6 56 "CardLine$Station" "restLeft" "I", Cond.fieldLink RX6 59 "CardLine$Station" "worked" "I", Cond.methodLink RX5 48 yX5_readSemicolon, Cond.instanceMethod yX5_readSemicolon]
noncomputable def wsL_law0_r17 : List Cond := [Cond.selects RX5 yX5_readSemicolon yX5_readSemicolon, Cond.code yX5_readSemicolon cX5_readSemicolon 1 (some .boolean), Cond.methodLink RX7 72 yX7_keepResult, Cond.instanceMethod yX7_keepResult, Cond.selects RX7 yX7_keepResult yX7_keepResult, Cond.code yX7_keepResult cX7_keepResult 1 none, Cond.fieldLink RX7 84 "CardLine$Reader" "errorKind" "I", Cond.fieldLink RX7 85 "CardLine$Reader" "statement" "I", Cond.methodLink RX7 78 yX3_copyFrom, Cond.instanceMethod yX3_copyFrom, Cond.selects RX3 yX3_copyFrom yX3_copyFrom, Cond.code yX3_copyFrom cX3_copyFrom 3 none, Cond.methodLink RX3 89 arraycopyName, Cond.methodLink RX3 79 yX6_copyFrom, Cond.instanceMethod yX6_copyFrom, Cond.selects RX6 yX6_copyFrom yX6_copyFrom, Cond.code yX6_copyFrom cX6_copyFrom 2 none, Cond.methodLink RX3 83 yX4_copyFrom, Cond.instanceMethod yX4_copyFrom, Cond.selects RX4 yX4_copyFrom yX4_copyFrom, Cond.code yX4_copyFrom cX4_copyFrom 2 none, Cond.methodLink RX4 49 arraycopyName, Cond.methodLink RX3 86 yX1_copyFrom, Cond.instanceMethod yX1_copyFrom]
noncomputable def wsL_law0_r18 : List Cond := [Cond.selects RX1 yX1_copyFrom yX1_copyFrom, Cond.code yX1_copyFrom cX1_copyFrom 2 none, Cond.methodLink RL 141 yX8_load, Cond.instanceMethod yX8_load, Cond.selects RX8 yX8_load yX8_load, Cond.code yX8_load cX8_load 1 (some .int), Cond.fieldLink RX8 75 "CardLineModel" "error" "I", Cond.fieldLink RX8 78 "CardLineModel" "errorAt" "I", Cond.fieldLink RX8 219 "CardLineModel" "pastMany" "I", Cond.methodLink RX8 201 yX8_starts, Cond.instanceMethod yX8_starts, Cond.selects RX8 yX8_starts yX8_starts, Cond.code yX8_starts cX8_starts 1 none, Cond.fieldLink RX8 65 "CardLineModel" "at" "I", Cond.fieldLink RX8 195 "CardLineModel" "statement" "I", Cond.methodLink RX8 204 yX8_copies, Cond.static yX8_copies, Cond.code yX8_copies cX8_copies 5 none, Cond.methodLink RX8 207 yX8_linePart, Cond.instanceMethod yX8_linePart, Cond.selects RX8 yX8_linePart yX8_linePart, Cond.code yX8_linePart cX8_linePart 1 none, Cond.methodLink RX8 140 yX8_reads, Cond.instanceMethod yX8_reads]
noncomputable def wsL_law0_r19 : List Cond := [Cond.selects RX8 yX8_reads yX8_reads, Cond.code yX8_reads cX8_reads 1 none, Cond.constantLong RX8 84 (97), Cond.constantLong RX8 86 (122), Cond.methodLink RX8 81 yX8_next, Cond.instanceMethod yX8_next, Cond.selects RX8 yX8_next yX8_next, Cond.code yX8_next cX8_next 1 (some .int), Cond.fieldLink RX8 72 "CardLineModel" "begin" "I", Cond.methodLink RX8 68 yX8_here, Cond.instanceMethod yX8_here, Cond.selects RX8 yX8_here yX8_here, Cond.code yX8_here cX8_here 1 (some .int), Cond.methodLink RX8 52 yX8_in, Cond.static yX8_in, Cond.code yX8_in cX8_in 6 (some .boolean), Cond.methodLink RX8 145 yX8_isWord, Cond.instanceMethod yX8_isWord, Cond.selects RX8 yX8_isWord yX8_isWord, Cond.code yX8_isWord cX8_isWord 4 (some .boolean), Cond.methodLink RX8 88 yJ0_length_8abf5, Cond.methodLink RX8 92 yJ0_charAt_5068e, Cond.methodLink RX8 100 yX8_fails, Cond.instanceMethod yX8_fails]
noncomputable def wsL_law0_r20 : List Cond := [Cond.selects RX8 yX8_fails yX8_fails, Cond.code yX8_fails cX8_fails 2 none, Cond.methodLink RX8 121 yX8_number, Cond.instanceMethod yX8_number, Cond.selects RX8 yX8_number yX8_number, Cond.code yX8_number cX8_number 4 (some .int), Cond.constantLong RX8 96 (48), Cond.constantLong RX8 98 (57), Cond.constant RX8 104 (10000000), Cond.methodLink RX8 105 Lib.Math.min.name, Cond.methodLink RX8 210 yX8_isMore, Cond.instanceMethod yX8_isMore, Cond.selects RX8 yX8_isMore yX8_isMore, Cond.code yX8_isMore cX8_isMore 1 (some .boolean), Cond.methodLink RX8 214 yX8_statement, Cond.instanceMethod yX8_statement, Cond.selects RX8 yX8_statement yX8_statement, Cond.code yX8_statement cX8_statement 1 none, Cond.fieldLink RX8 137 "CardLineModel" "statementAt" "I", Cond.methodLink RX8 171 yX8_stationPart, Cond.instanceMethod yX8_stationPart, Cond.selects RX8 yX8_stationPart yX8_stationPart, Cond.code yX8_stationPart cX8_stationPart 3 none, Cond.methodLink RX8 152 yX8_tooMany]
noncomputable def wsL_law0_r21 : List Cond := [Cond.instanceMethod yX8_tooMany, Cond.selects RX8 yX8_tooMany yX8_tooMany, Cond.code yX8_tooMany cX8_tooMany 2 none, Cond.methodLink RX8 149 yX8_sets, Cond.instanceMethod yX8_sets, Cond.selects RX8 yX8_sets yX8_sets, Cond.code yX8_sets cX8_sets 4 none, Cond.methodLink RX8 156 yX8_mostPace, Cond.static yX8_mostPace, Cond.code yX8_mostPace cX8_mostPace 1 (some .int), Cond.methodLink RX8 160 yX8_scriptPart, Cond.instanceMethod yX8_scriptPart, Cond.selects RX8 yX8_scriptPart yX8_scriptPart, Cond.code yX8_scriptPart cX8_scriptPart 5 none, Cond.methodLink RX8 182 yX8_restPart, Cond.instanceMethod yX8_restPart, Cond.selects RX8 yX8_restPart yX8_restPart, Cond.code yX8_restPart cX8_restPart 4 none, Cond.methodLink RX8 187 yX8_lotPart, Cond.instanceMethod yX8_lotPart, Cond.selects RX8 yX8_lotPart yX8_lotPart, Cond.code yX8_lotPart cX8_lotPart 2 none, Cond.methodLink RX8 192 yX8_cardPart, Cond.instanceMethod yX8_cardPart]
noncomputable def wsL_law0_r22 : List Cond := [Cond.selects RX8 yX8_cardPart yX8_cardPart, Cond.code yX8_cardPart cX8_cardPart 2 none, Cond.methodLink RX8 163 yX8_text, Cond.instanceMethod yX8_text, Cond.selects RX8 yX8_text yX8_text, Cond.code yX8_text cX8_text 1 none, Cond.fieldLink RX8 111 "CardLineModel" "letterMany" "I", Cond.methodLink RX8 124 yX8_pieces, Cond.instanceMethod yX8_pieces, Cond.selects RX8 yX8_pieces yX8_pieces, Cond.code yX8_pieces cX8_pieces 4 none, Cond.methodLink RX8 114 yX8_takes, Cond.instanceMethod yX8_takes, Cond.selects RX8 yX8_takes yX8_takes, Cond.code yX8_takes cX8_takes 3 none, Cond.methodLink RX8 118 yX8_group, Cond.instanceMethod yX8_group, Cond.selects RX8 yX8_group yX8_group, Cond.code yX8_group cX8_group 4 none, Cond.methodLink RX8 127 yX8_repeats, Cond.instanceMethod yX8_repeats, Cond.selects RX8 yX8_repeats yX8_repeats, Cond.code yX8_repeats cX8_repeats 6 none, Cond.methodLink RX8 166 yX8_adds]
noncomputable def wsL_law0_r23 : List Cond := [Cond.instanceMethod yX8_adds, Cond.selects RX8 yX8_adds yX8_adds, Cond.code yX8_adds cX8_adds 4 none, Cond.methodLink RX8 130 yX8_setsCard, Cond.instanceMethod yX8_setsCard, Cond.selects RX8 yX8_setsCard yX8_setsCard, Cond.code yX8_setsCard cX8_setsCard 4 none, Cond.methodLink RX8 134 yX8_ofLot, Cond.instanceMethod yX8_ofLot, Cond.selects RX8 yX8_ofLot yX8_ofLot, Cond.code yX8_ofLot cX8_ofLot 3 (some .int), Cond.methodLink RX8 216 yX8_settles, Cond.instanceMethod yX8_settles, Cond.selects RX8 yX8_settles yX8_settles, Cond.code yX8_settles cX8_settles 1 none, Cond.fieldLink RX8 198 "CardLineModel" "lastError" "I", Cond.methodLink RL 142 yX7_loadError, Cond.instanceMethod yX7_loadError, Cond.selects RX7 yX7_loadError yX7_loadError, Cond.code yX7_loadError cX7_loadError 1 (some .int), Cond.methodLink RL 145 yX8_loadError, Cond.instanceMethod yX8_loadError, Cond.selects RX8 yX8_loadError yX8_loadError, Cond.code yX8_loadError cX8_loadError 1 (some .int)]
noncomputable def wsL_law0_r24 : List Cond := [Cond.methodLink RL 146 yX7_loadStatement, Cond.instanceMethod yX7_loadStatement, Cond.selects RX7 yX7_loadStatement yX7_loadStatement, Cond.code yX7_loadStatement cX7_loadStatement 1 (some .int), Cond.methodLink RL 149 yX8_loadStatement, Cond.instanceMethod yX8_loadStatement, Cond.selects RX8 yX8_loadStatement yX8_loadStatement, Cond.code yX8_loadStatement cX8_loadStatement 1 (some .int), Cond.methodLink RL 150 yL_count, Cond.static yL_count, Cond.initialized RL, Cond.codeWith yL_count cL_count 4 (some .int) [(0, 9, 12, 13)], Cond.classLink RL 13 "java/lang/IllegalArgumentException", Cond.methodLink RL 7 yX7_count, Cond.instanceMethod yX7_count, Cond.selects RX7 yX7_count yX7_count, Cond.code yX7_count cX7_count 2 (some .int), Cond.classLink RX7 105 "java/lang/IllegalArgumentException", Cond.initialized "java/lang/IllegalArgumentException", Cond.fieldLink RX7 100 "CardLine$Line" "lotCount" "I", Cond.fieldLink RX7 95 "CardLine$Line" "cardCount" "I", Cond.fieldLink RX7 110 "CardLine$Line" "blanks" "I", Cond.fieldLink RX7 113 "CardLine$Line" "inState" "[I", Cond.methodLink RL 155 yX8_count]
noncomputable def wsL_law0_r25 : List Cond := [Cond.instanceMethod yX8_count, Cond.selects RX8 yX8_count yX8_count, Cond.code yX8_count cX8_count 2 (some .int), Cond.constantLong RX8 236 (9), Cond.methodLink RX8 226 yX8_isThrown, Cond.instanceMethod yX8_isThrown, Cond.selects RX8 yX8_isThrown yX8_isThrown, Cond.code yX8_isThrown cX8_isThrown 3 (some .boolean), Cond.methodLink RX8 238 yX8_inState, Cond.instanceMethod yX8_inState, Cond.selects RX8 yX8_inState yX8_inState, Cond.code yX8_inState cX8_inState 4 (some .int), Cond.methodLink RX8 233 yX8_ofCard, Cond.instanceMethod yX8_ofCard, Cond.selects RX8 yX8_ofCard yX8_ofCard, Cond.code yX8_ofCard cX8_ofCard 3 (some .int), Cond.methodLink RL 156 yL_setting, Cond.static yL_setting, Cond.codeWith yL_setting cL_setting 4 (some .int) [(0, 9, 12, 13)], Cond.methodLink RL 15 yX7_setting, Cond.instanceMethod yX7_setting, Cond.selects RX7 yX7_setting yX7_setting, Cond.code yX7_setting cX7_setting 2 (some .int), Cond.fieldLink RX7 118 "CardLine$Line" "dayLength" "I"]
noncomputable def wsL_law0_r26 : List Cond := [Cond.fieldLink RX7 121 "CardLine$Line" "trayPlaces" "I", Cond.fieldLink RX7 124 "CardLine$Line" "tries" "I", Cond.fieldLink RX7 127 "CardLine$Line" "blanksTold" "I", Cond.fieldLink RX7 130 "CardLine$Line" "blanksAdded" "I", Cond.methodLink RL 158 yX8_setting, Cond.instanceMethod yX8_setting, Cond.selects RX8 yX8_setting yX8_setting, Cond.code yX8_setting cX8_setting 2 (some .int), Cond.constantLong RX8 241 (4), Cond.methodLink RL 159 yL_station, Cond.static yL_station, Cond.codeWith yL_station cL_station 5 (some .int) [(0, 10, 13, 22), (0, 10, 17, 13)], Cond.classLink RL 22 "java/lang/IndexOutOfBoundsException", Cond.methodLink RL 18 yX7_station, Cond.instanceMethod yX7_station, Cond.selects RX7 yX7_station yX7_station, Cond.code yX7_station cX7_station 4 (some .int), Cond.fieldLink RX7 137 "CardLine$Line" "stations" "[LCardLine$Station;", Cond.fieldLink RX7 141 "CardLine$Station" "kind" "I", Cond.fieldLink RX7 146 "CardLine$Station" "pace" "I", Cond.fieldLink RX7 149 "CardLine$Station" "card" "I", Cond.fieldLink RX7 152 "CardLine$Station" "need" "I", Cond.fieldLink RX7 155 "CardLine$Station" "signsUsed" "I", Cond.fieldLink RX7 158 "CardLine$Station" "fails" "I"]
noncomputable def wsL_law0_r27 : List Cond := [Cond.fieldLink RX7 161 "CardLine$Station" "wentOn" "I", Cond.fieldLink RX7 164 "CardLine$Station" "stopped" "Z", Cond.fieldLink RX7 168 "CardLine$Station" "wheelLetter" "I", Cond.fieldLink RX7 171 "CardLine$Station" "restAfter" "I", Cond.fieldLink RX7 174 "CardLine$Station" "restTicks" "I", Cond.fieldLink RX7 177 "CardLine$Station" "restLeft" "I", Cond.fieldLink RX7 180 "CardLine$Station" "worked" "I", Cond.methodLink RX7 133 yX7_needStation, Cond.instanceMethod yX7_needStation, Cond.selects RX7 yX7_needStation yX7_needStation, Cond.code yX7_needStation cX7_needStation 2 none, Cond.classLink RX7 88 "java/lang/IndexOutOfBoundsException", Cond.initialized "java/lang/IndexOutOfBoundsException", Cond.methodLink RL 162 yX8_station, Cond.instanceMethod yX8_station, Cond.selects RX8 yX8_station yX8_station, Cond.code yX8_station cX8_station 3 (some .int), Cond.constantLong RX8 246 (12), Cond.methodLink RX8 243 yX8_isStation, Cond.instanceMethod yX8_isStation, Cond.selects RX8 yX8_isStation yX8_isStation, Cond.code yX8_isStation cX8_isStation 2 (some .boolean), Cond.methodLink RX8 248 yX8_of, Cond.instanceMethod yX8_of]
noncomputable def wsL_law0_r28 : List Cond := [Cond.selects RX8 yX8_of yX8_of, Cond.code yX8_of cX8_of 3 (some .int), Cond.methodLink RL 163 yL_card, Cond.static yL_card, Cond.codeWith yL_card cL_card 5 (some .int) [(0, 10, 13, 22), (0, 10, 17, 13)], Cond.methodLink RL 24 yX7_card, Cond.instanceMethod yX7_card, Cond.selects RX7 yX7_card yX7_card, Cond.code yX7_card cX7_card 4 (some .int), Cond.fieldLink RX7 186 "CardLine$Line" "cards" "[LCardLine$Card;", Cond.fieldLink RX7 190 "CardLine$Card" "lot" "I", Cond.fieldLink RX7 195 "CardLine$Card" "place" "I", Cond.fieldLink RX7 198 "CardLine$Card" "text" "[B", Cond.fieldLink RX7 201 "CardLine$Card" "state" "I", Cond.fieldLink RX7 204 "CardLine$Card" "station" "I", Cond.fieldLink RX7 207 "CardLine$Card" "fails" "I", Cond.fieldLink RX7 208 "CardLine$Card" "scraps" "I", Cond.fieldLink RX7 211 "CardLine$Card" "leftTime" "I", Cond.methodLink RX7 183 yX7_needCard, Cond.instanceMethod yX7_needCard, Cond.selects RX7 yX7_needCard yX7_needCard, Cond.code yX7_needCard cX7_needCard 2 none, Cond.methodLink RL 165 yX8_card, Cond.instanceMethod yX8_card]
noncomputable def wsL_law0_r29 : List Cond := [Cond.selects RX8 yX8_card yX8_card, Cond.code yX8_card cX8_card 3 (some .int), Cond.constantLong RX8 254 (7), Cond.methodLink RX8 251 yX8_isCard, Cond.instanceMethod yX8_isCard, Cond.selects RX8 yX8_isCard yX8_isCard, Cond.code yX8_isCard cX8_isCard 2 (some .boolean), Cond.methodLink RL 166 yL_letter, Cond.static yL_letter, Cond.codeWith yL_letter cL_letter 5 (some .int) [(0, 10, 13, 22)], Cond.methodLink RL 27 yX7_letter, Cond.instanceMethod yX7_letter, Cond.selects RX7 yX7_letter yX7_letter, Cond.code yX7_letter cX7_letter 4 (some .int), Cond.methodLink RL 168 yX8_letter, Cond.instanceMethod yX8_letter, Cond.selects RX8 yX8_letter yX8_letter, Cond.code yX8_letter cX8_letter 3 (some .int), Cond.methodLink RL 169 yL_lot, Cond.static yL_lot, Cond.codeWith yL_lot cL_lot 5 (some .int) [(0, 10, 13, 22), (0, 10, 17, 13)], Cond.methodLink RL 30 yX7_lot, Cond.instanceMethod yX7_lot, Cond.selects RX7 yX7_lot yX7_lot]
noncomputable def wsL_law0_r30 : List Cond := [Cond.code yX7_lot cX7_lot 4 (some .int), Cond.fieldLink RX7 217 "CardLine$Line" "lots" "[LCardLine$Lot;", Cond.fieldLink RX7 221 "CardLine$Lot" "rank" "I", Cond.fieldLink RX7 226 "CardLine$Lot" "size" "I", Cond.fieldLink RX7 229 "CardLine$Lot" "left" "I", Cond.fieldLink RX7 232 "CardLine$Lot" "givenUp" "I", Cond.fieldLink RX7 235 "CardLine$Lot" "fails" "I", Cond.fieldLink RX7 236 "CardLine$Lot" "scraps" "I", Cond.methodLink RX7 214 yX7_needLot, Cond.instanceMethod yX7_needLot, Cond.selects RX7 yX7_needLot yX7_needLot, Cond.code yX7_needLot cX7_needLot 2 none, Cond.methodLink RX7 237 yX4_nextCard, Cond.instanceMethod yX4_nextCard, Cond.selects RX4 yX4_nextCard yX4_nextCard, Cond.code yX4_nextCard cX4_nextCard 1 (some .int), Cond.methodLink RX4 55 yX4_cardAt, Cond.instanceMethod yX4_cardAt, Cond.selects RX4 yX4_cardAt yX4_cardAt, Cond.code yX4_cardAt cX4_cardAt 2 (some .int), Cond.methodLink RL 171 yX8_lot, Cond.instanceMethod yX8_lot, Cond.selects RX8 yX8_lot yX8_lot, Cond.code yX8_lot cX8_lot 3 (some .int)]
noncomputable def wsL_law0_r31 : List Cond := [Cond.constantLong RX8 259 (6), Cond.methodLink RX8 222 yX8_isLot, Cond.instanceMethod yX8_isLot, Cond.selects RX8 yX8_isLot yX8_isLot, Cond.code yX8_isLot cX8_isLot 2 (some .boolean), Cond.methodLink RX8 261 yX8_inStateOf, Cond.instanceMethod yX8_inStateOf, Cond.selects RX8 yX8_inStateOf yX8_inStateOf, Cond.code yX8_inStateOf cX8_inStateOf 5 (some .int), Cond.methodLink RX8 264 yX8_sumOf, Cond.instanceMethod yX8_sumOf, Cond.selects RX8 yX8_sumOf yX8_sumOf, Cond.code yX8_sumOf cX8_sumOf 5 (some .int), Cond.methodLink RX8 267 yX8_nextOf, Cond.instanceMethod yX8_nextOf, Cond.selects RX8 yX8_nextOf yX8_nextOf, Cond.code yX8_nextOf cX8_nextOf 5 (some .int), Cond.methodLink RX8 256 yX8_isFinished, Cond.instanceMethod yX8_isFinished, Cond.selects RX8 yX8_isFinished yX8_isFinished, Cond.code yX8_isFinished cX8_isFinished 2 (some .boolean), Cond.methodLink RL 172 yL_cardOf, Cond.static yL_cardOf, Cond.codeWith yL_cardOf cL_cardOf 5 (some .int) [(0, 10, 13, 22)]]
noncomputable def wsL_law0_r32 : List Cond := [Cond.methodLink RL 33 yX7_cardOf, Cond.instanceMethod yX7_cardOf, Cond.selects RX7 yX7_cardOf yX7_cardOf, Cond.code yX7_cardOf cX7_cardOf 3 (some .int), Cond.methodLink RX7 241 yX4_cardAt, Cond.methodLink RL 174 yX8_cardOf, Cond.instanceMethod yX8_cardOf, Cond.selects RX8 yX8_cardOf yX8_cardOf, Cond.code yX8_cardOf cX8_cardOf 3 (some .int), Cond.methodLink RX8 270 yX8_at, Cond.instanceMethod yX8_at, Cond.selects RX8 yX8_at yX8_at, Cond.code yX8_at cX8_at 4 (some .int), Cond.methodLink RL 175 yX7_trayAt, Cond.instanceMethod yX7_trayAt, Cond.selects RX7 yX7_trayAt yX7_trayAt, Cond.code yX7_trayAt cX7_trayAt 4 (some .int), Cond.methodLink RL 178 yX8_trayAt, Cond.instanceMethod yX8_trayAt, Cond.selects RX8 yX8_trayAt yX8_trayAt, Cond.code yX8_trayAt cX8_trayAt 4 (some .int), Cond.methodLink RL 179 yX7_leftAt, Cond.instanceMethod yX7_leftAt, Cond.selects RX7 yX7_leftAt yX7_leftAt]
noncomputable def wsL_law0_r33 : List Cond := [Cond.code yX7_leftAt cX7_leftAt 2 (some .int), Cond.fieldLink RX7 245 "CardLine$Line" "leftCards" "[I", Cond.methodLink RL 182 yX8_leftAt, Cond.instanceMethod yX8_leftAt, Cond.selects RX8 yX8_leftAt yX8_leftAt, Cond.code yX8_leftAt cX8_leftAt 2 (some .int), Cond.methodLink RL 183 yX7_nextFed, Cond.instanceMethod yX7_nextFed, Cond.selects RX7 yX7_nextFed yX7_nextFed, Cond.code yX7_nextFed cX7_nextFed 1 (some .int), Cond.methodLink RX7 248 yX3_nextWaiting, Cond.instanceMethod yX3_nextWaiting, Cond.selects RX3 yX3_nextWaiting yX3_nextWaiting, Cond.code yX3_nextWaiting cX3_nextWaiting 6 (some .int), Cond.fieldLink RX3 208 "CardLine$Card" "state" "I", Cond.fieldLink RX3 205 "CardLine$Card" "rushed" "Z", Cond.fieldLink RX3 176 "CardLine$Card" "fails" "I", Cond.fieldLink RX3 198 "CardLine$Card" "scraps" "I", Cond.fieldLink RX3 112 "CardLine$Card" "lot" "I", Cond.fieldLink RX3 211 "CardLine$Lot" "rank" "I", Cond.methodLink RL 186 yX8_nextFed, Cond.instanceMethod yX8_nextFed, Cond.selects RX8 yX8_nextFed yX8_nextFed, Cond.code yX8_nextFed cX8_nextFed 1 (some .int)]
noncomputable def wsL_law0_r34 : List Cond := [Cond.methodLink RX8 282 yX8_toFeed, Cond.instanceMethod yX8_toFeed, Cond.selects RX8 yX8_toFeed yX8_toFeed, Cond.code yX8_toFeed cX8_toFeed 3 (some .int), Cond.methodLink RX8 278 yX8_isAhead, Cond.instanceMethod yX8_isAhead, Cond.selects RX8 yX8_isAhead yX8_isAhead, Cond.code yX8_isAhead cX8_isAhead 5 (some .boolean), Cond.methodLink RX8 272 yX8_classOf, Cond.instanceMethod yX8_classOf, Cond.selects RX8 yX8_classOf yX8_classOf, Cond.code yX8_classOf cX8_classOf 2 (some .int), Cond.methodLink RX8 275 yX8_rankOf, Cond.instanceMethod yX8_rankOf, Cond.selects RX8 yX8_rankOf yX8_rankOf, Cond.code yX8_rankOf cX8_rankOf 2 (some .int), Cond.methodLink RL 187 yL_steps, Cond.static yL_steps, Cond.codeWith yL_steps cL_steps 5 (some .int) [(0, 10, 13, 22), (0, 10, 17, 13)], Cond.methodLink RL 36 yX7_steps, Cond.instanceMethod yX7_steps, Cond.selects RX7 yX7_steps yX7_steps, Cond.code yX7_steps cX7_steps 3 (some .int), Cond.methodLink RX7 251 yX7_needRange]
noncomputable def wsL_law0_r35 : List Cond := [Cond.static yX7_needRange, Cond.code yX7_needRange cX7_needRange 3 none, Cond.methodLink RX7 255 yX7_stepsOf, Cond.static yX7_stepsOf, Cond.code yX7_stepsOf cX7_stepsOf 6 (some .int), Cond.methodLink RL 189 yX8_steps, Cond.instanceMethod yX8_steps, Cond.selects RX8 yX8_steps yX8_steps, Cond.code yX8_steps cX8_steps 3 (some .int), Cond.constantLong RX8 291 (25), Cond.methodLink RX8 293 yX8_stepsOf, Cond.instanceMethod yX8_stepsOf, Cond.selects RX8 yX8_stepsOf yX8_stepsOf, Cond.code yX8_stepsOf cX8_stepsOf 6 (some .int), Cond.methodLink RX8 288 yX8_turn, Cond.static yX8_turn, Cond.code yX8_turn cX8_turn 3 (some .int), Cond.methodLink RX8 285 Lib.Math.abs.name, Cond.static Lib.Math.abs.name, Cond.code Lib.Math.abs.name Lib.Math.abs.code 1 (some .int), Cond.methodLink RL 190 yL_ticksFor, Cond.static yL_ticksFor, Cond.codeWith yL_ticksFor cL_ticksFor 5 (some .int) [(0, 10, 13, 22)], Cond.methodLink RL 39 yX7_ticksFor]
noncomputable def wsL_law0_r36 : List Cond := [Cond.instanceMethod yX7_ticksFor, Cond.selects RX7 yX7_ticksFor yX7_ticksFor, Cond.code yX7_ticksFor cX7_ticksFor 3 (some .int), Cond.methodLink RX7 259 yX6_ticksOf, Cond.instanceMethod yX6_ticksOf, Cond.selects RX6 yX6_ticksOf yX6_ticksOf, Cond.code yX6_ticksOf cX6_ticksOf 2 (some .int), Cond.methodLink RX6 66 yX6_turnsOf, Cond.instanceMethod yX6_turnsOf, Cond.selects RX6 yX6_turnsOf yX6_turnsOf, Cond.code yX6_turnsOf cX6_turnsOf 2 (some .int), Cond.methodLink RX6 70 yX6_ticksWith, Cond.instanceMethod yX6_ticksWith, Cond.selects RX6 yX6_ticksWith yX6_ticksWith, Cond.code yX6_ticksWith cX6_ticksWith 3 (some .int), Cond.methodLink RL 192 yX8_ticksFor, Cond.instanceMethod yX8_ticksFor, Cond.selects RX8 yX8_ticksFor yX8_ticksFor, Cond.code yX8_ticksFor cX8_ticksFor 3 (some .int), Cond.methodLink RX8 296 yX8_ticksOf, Cond.instanceMethod yX8_ticksOf, Cond.selects RX8 yX8_ticksOf yX8_ticksOf, Cond.code yX8_ticksOf cX8_ticksOf 4 (some .int), Cond.methodLink RL 193 yX7_now]
noncomputable def wsL_law0_r37 : List Cond := [Cond.instanceMethod yX7_now, Cond.selects RX7 yX7_now yX7_now, Cond.code yX7_now cX7_now 1 (some .int), Cond.fieldLink RX7 263 "CardLine$Line" "time" "I", Cond.methodLink RL 196 yX8_now, Cond.instanceMethod yX8_now, Cond.selects RX8 yX8_now yX8_now, Cond.code yX8_now cX8_now 1 (some .int), Cond.methodLink RL 197 yL_day, Cond.static yL_day, Cond.codeWith yL_day cL_day 6 (some .int) [(0, 12, 15, 22), (0, 12, 19, 13)], Cond.methodLink RL 42 yX7_day, Cond.instanceMethod yX7_day, Cond.selects RX7 yX7_day yX7_day, Cond.code yX7_day cX7_day 6 (some .int), Cond.fieldLink RX7 271 "CardLine$Lot" "dayLeft" "[I", Cond.fieldLink RX7 274 "CardLine$Lot" "dayFails" "[I", Cond.methodLink RX7 268 yX3_daysOver, Cond.instanceMethod yX3_daysOver, Cond.selects RX3 yX3_daysOver yX3_daysOver, Cond.code yX3_daysOver cX3_daysOver 1 (some .int), Cond.methodLink RL 200 yX8_day, Cond.instanceMethod yX8_day, Cond.selects RX8 yX8_day yX8_day]
noncomputable def wsL_law0_r38 : List Cond := [Cond.code yX8_day cX8_day 4 (some .int), Cond.methodLink RL 201 yL_today, Cond.static yL_today, Cond.codeWith yL_today cL_today 5 (some .int) [(0, 10, 13, 22), (0, 10, 17, 13)], Cond.methodLink RL 46 yX7_today, Cond.instanceMethod yX7_today, Cond.selects RX7 yX7_today yX7_today, Cond.code yX7_today cX7_today 3 (some .int), Cond.fieldLink RX7 277 "CardLine$Lot" "todayLeft" "I", Cond.fieldLink RX7 280 "CardLine$Lot" "todayFails" "I", Cond.methodLink RL 203 yX8_today, Cond.instanceMethod yX8_today, Cond.selects RX8 yX8_today yX8_today, Cond.code yX8_today cX8_today 3 (some .int), Cond.methodLink RL 204 yL_total, Cond.static yL_total, Cond.codeWith yL_total cL_total 4 (some .int) [(0, 9, 12, 13)], Cond.methodLink RL 49 yX7_total, Cond.instanceMethod yX7_total, Cond.selects RX7 yX7_total yX7_total, Cond.code yX7_total cX7_total 2 (some .int), Cond.fieldLink RX7 283 "CardLine$Line" "totals" "[I", Cond.methodLink RL 206 yX8_total, Cond.instanceMethod yX8_total]
noncomputable def wsL_law0_r39 : List Cond := [Cond.selects RX8 yX8_total yX8_total, Cond.code yX8_total cX8_total 2 (some .int), Cond.methodLink RL 207 yX7_yieldPart, Cond.instanceMethod yX7_yieldPart, Cond.selects RX7 yX7_yieldPart yX7_yieldPart, Cond.code yX7_yieldPart cX7_yieldPart 2 (some .double), Cond.methodLink RL 211 yX8_yieldPart, Cond.instanceMethod yX8_yieldPart, Cond.selects RX8 yX8_yieldPart yX8_yieldPart, Cond.code yX8_yieldPart cX8_yieldPart 2 (some .double), Cond.methodLink RL 212 yX7_meanFails, Cond.instanceMethod yX7_meanFails, Cond.selects RX7 yX7_meanFails yX7_meanFails, Cond.code yX7_meanFails cX7_meanFails 2 (some .float), Cond.methodLink RL 216 yX8_meanFails, Cond.instanceMethod yX8_meanFails, Cond.selects RX8 yX8_meanFails yX8_meanFails, Cond.code yX8_meanFails cX8_meanFails 1 (some .float), Cond.methodLink RL 217 yL_busyPart, Cond.static yL_busyPart, Cond.codeWith yL_busyPart cL_busyPart 4 (some .int) [(0, 9, 12, 22)], Cond.methodLink RL 52 yX7_busyPart, Cond.instanceMethod yX7_busyPart, Cond.selects RX7 yX7_busyPart yX7_busyPart]
noncomputable def wsL_law0_r40 : List Cond := [Cond.code yX7_busyPart cX7_busyPart 3 (some .float), Cond.methodLink RL 220 yX8_busyPart, Cond.instanceMethod yX8_busyPart, Cond.selects RX8 yX8_busyPart yX8_busyPart, Cond.code yX8_busyPart cX8_busyPart 2 (some .float), Cond.methodLink RL 221 yX7_bottleneck, Cond.instanceMethod yX7_bottleneck, Cond.selects RX7 yX7_bottleneck yX7_bottleneck, Cond.code yX7_bottleneck cX7_bottleneck 5 (some .int), Cond.methodLink RX7 286 yX3_ticksToCome, Cond.instanceMethod yX3_ticksToCome, Cond.selects RX3 yX3_ticksToCome yX3_ticksToCome, Cond.code yX3_ticksToCome cX3_ticksToCome 4 (some .int), Cond.fieldLink RX3 220 "CardLine$Card" "text" "[B", Cond.methodLink RX3 253 yX1_isFinished, Cond.instanceMethod yX1_isFinished, Cond.selects RX1 yX1_isFinished yX1_isFinished, Cond.code yX1_isFinished cX1_isFinished 1 (some .boolean), Cond.methodLink RX3 256 yX6_ticksOf, Cond.methodLink RL 224 yX8_bottleneck, Cond.instanceMethod yX8_bottleneck, Cond.selects RX8 yX8_bottleneck yX8_bottleneck, Cond.code yX8_bottleneck cX8_bottleneck 6 (some .int), Cond.methodLink RX8 299 Lib.Math.max.name]
noncomputable def wsL_law0_r41 : List Cond := [Cond.static Lib.Math.max.name, Cond.code Lib.Math.max.name Lib.Math.max.code 2 (some .int), Cond.methodLink RL 225 yL_order, Cond.static yL_order, Cond.codeWith yL_order cL_order 4 (some .int) [(0, 9, 12, 22)], Cond.methodLink RL 56 yX7_order, Cond.instanceMethod yX7_order, Cond.selects RX7 yX7_order yX7_order, Cond.code yX7_order cX7_order 2 (some .int), Cond.methodLink RX7 289 yX5_readOrder, Cond.instanceMethod yX5_readOrder, Cond.selects RX5 yX5_readOrder yX5_readOrder, Cond.code yX5_readOrder cX5_readOrder 2 none, Cond.methodLink RX7 292 yX7_remember, Cond.instanceMethod yX7_remember, Cond.selects RX7 yX7_remember yX7_remember, Cond.code yX7_remember cX7_remember 2 none, Cond.methodLink RX7 295 yX5_textRead, Cond.methodLink RX7 299 yX3_addCard, Cond.methodLink RL 227 yX8_order, Cond.instanceMethod yX8_order, Cond.selects RX8 yX8_order yX8_order, Cond.code yX8_order cX8_order 2 (some .int), Cond.methodLink RX8 230 yX8_keeps]
noncomputable def wsL_law0_r42 : List Cond := [Cond.instanceMethod yX8_keeps, Cond.selects RX8 yX8_keeps yX8_keeps, Cond.code yX8_keeps cX8_keeps 2 none, Cond.methodLink RL 228 yL_giveUp, Cond.static yL_giveUp, Cond.codeWith yL_giveUp cL_giveUp 4 (some .int) [(0, 9, 12, 22)], Cond.methodLink RL 59 yX7_giveUp, Cond.instanceMethod yX7_giveUp, Cond.selects RX7 yX7_giveUp yX7_giveUp, Cond.code yX7_giveUp cX7_giveUp 2 (some .int), Cond.methodLink RX7 303 yX7_waits, Cond.instanceMethod yX7_waits, Cond.selects RX7 yX7_waits yX7_waits, Cond.code yX7_waits cX7_waits 2 (some .boolean), Cond.methodLink RX7 307 yX3_abandon, Cond.instanceMethod yX3_abandon, Cond.selects RX3 yX3_abandon yX3_abandon, Cond.code yX3_abandon cX3_abandon 3 none, Cond.fieldLink RX3 247 "CardLine$Lot" "givenUp" "I", Cond.methodLink RX3 180 yX3_changeState, Cond.instanceMethod yX3_changeState, Cond.selects RX3 yX3_changeState yX3_changeState, Cond.code yX3_changeState cX3_changeState 3 none, Cond.fieldLink RX3 232 "CardLine$Card" "station" "I"]
noncomputable def wsL_law0_r43 : List Cond := [Cond.methodLink RX3 244 yX3_findNextCard, Cond.instanceMethod yX3_findNextCard, Cond.selects RX3 yX3_findNextCard yX3_findNextCard, Cond.code yX3_findNextCard cX3_findNextCard 2 none, Cond.fieldLink RX3 250 "CardLine$Lot" "nextPlace" "I", Cond.methodLink RL 230 yX8_giveUp, Cond.instanceMethod yX8_giveUp, Cond.selects RX8 yX8_giveUp yX8_giveUp, Cond.code yX8_giveUp cX8_giveUp 2 (some .int), Cond.methodLink RL 231 yL_setRank, Cond.static yL_setRank, Cond.codeWith yL_setRank cL_setRank 5 (some .int) [(0, 10, 13, 22), (0, 10, 17, 13)], Cond.methodLink RL 62 yX7_setRank, Cond.instanceMethod yX7_setRank, Cond.selects RX7 yX7_setRank yX7_setRank, Cond.code yX7_setRank cX7_setRank 4 (some .int), Cond.methodLink RL 233 yX8_setRank, Cond.instanceMethod yX8_setRank, Cond.selects RX8 yX8_setRank yX8_setRank, Cond.code yX8_setRank cX8_setRank 3 (some .int), Cond.methodLink RX8 338 yX8_puts, Cond.instanceMethod yX8_puts, Cond.selects RX8 yX8_puts yX8_puts, Cond.code yX8_puts cX8_puts 4 (some .int)]
noncomputable def wsL_law0_r44 : List Cond := [Cond.methodLink RL 234 yL_refill, Cond.static yL_refill, Cond.codeWith yL_refill cL_refill 4 (some .int) [(0, 9, 12, 13)], Cond.methodLink RL 65 yX7_refill, Cond.instanceMethod yX7_refill, Cond.selects RX7 yX7_refill yX7_refill, Cond.code yX7_refill cX7_refill 2 (some .int), Cond.methodLink RL 236 yX8_refill, Cond.instanceMethod yX8_refill, Cond.selects RX8 yX8_refill yX8_refill, Cond.code yX8_refill cX8_refill 2 (some .int), Cond.constantLong RX8 341 (999), Cond.methodLink RL 237 yL_setPace, Cond.static yL_setPace, Cond.codeWith yL_setPace cL_setPace 5 (some .int) [(0, 10, 13, 22), (0, 10, 17, 13)], Cond.methodLink RL 68 yX7_setPace, Cond.instanceMethod yX7_setPace, Cond.selects RX7 yX7_setPace yX7_setPace, Cond.code yX7_setPace cX7_setPace 5 (some .int), Cond.methodLink RX7 310 yX7_mostPace, Cond.methodLink RL 239 yX8_setPace, Cond.instanceMethod yX8_setPace, Cond.selects RX8 yX8_setPace yX8_setPace, Cond.code yX8_setPace cX8_setPace 3 (some .int)]
noncomputable def wsL_law0_r45 : List Cond := [Cond.methodLink RL 240 yL_stop, Cond.static yL_stop, Cond.codeWith yL_stop cL_stop 5 (some .int) [(0, 10, 13, 22)], Cond.methodLink RL 71 yX7_stop, Cond.instanceMethod yX7_stop, Cond.selects RX7 yX7_stop yX7_stop, Cond.code yX7_stop cX7_stop 5 (some .int), Cond.methodLink RL 243 yX8_stop, Cond.instanceMethod yX8_stop, Cond.selects RX8 yX8_stop yX8_stop, Cond.code yX8_stop cX8_stop 5 (some .int), Cond.methodLink RL 244 yL_setRest, Cond.static yL_setRest, Cond.codeWith yL_setRest cL_setRest 6 (some .int) [(0, 12, 15, 22), (0, 12, 19, 13)], Cond.methodLink RL 75 yX7_setRest, Cond.instanceMethod yX7_setRest, Cond.selects RX7 yX7_setRest yX7_setRest, Cond.code yX7_setRest cX7_setRest 6 (some .int), Cond.methodLink RL 246 yX8_setRest, Cond.instanceMethod yX8_setRest, Cond.selects RX8 yX8_setRest yX8_setRest, Cond.code yX8_setRest cX8_setRest 6 (some .int), Cond.constantLong RX8 343 (99), Cond.methodLink RL 247 yL_rush]
noncomputable def wsL_law0_r46 : List Cond := [Cond.static yL_rush, Cond.codeWith yL_rush cL_rush 4 (some .int) [(0, 9, 12, 22)], Cond.methodLink RL 78 yX7_rush, Cond.instanceMethod yX7_rush, Cond.selects RX7 yX7_rush yX7_rush, Cond.code yX7_rush cX7_rush 4 (some .int), Cond.fieldLink RX7 313 "CardLine$Card" "rushed" "Z", Cond.methodLink RL 249 yX8_rush, Cond.instanceMethod yX8_rush, Cond.selects RX8 yX8_rush yX8_rush, Cond.code yX8_rush cX8_rush 4 (some .int), Cond.methodLink RL 250 yL_swap, Cond.static yL_swap, Cond.codeWith yL_swap cL_swap 5 (some .int) [(0, 10, 13, 22), (0, 10, 17, 13)], Cond.methodLink RL 81 yX7_swap, Cond.instanceMethod yX7_swap, Cond.selects RX7 yX7_swap yX7_swap, Cond.code yX7_swap cX7_swap 4 (some .int), Cond.methodLink RX7 318 yX3_putAt, Cond.instanceMethod yX3_putAt, Cond.selects RX3 yX3_putAt yX3_putAt, Cond.code yX3_putAt cX3_putAt 3 none, Cond.fieldLink RX3 109 "CardLine$Card" "place" "I", Cond.methodLink RL 252 yX8_swap]
noncomputable def wsL_law0_r47 : List Cond := [Cond.instanceMethod yX8_swap, Cond.selects RX8 yX8_swap yX8_swap, Cond.code yX8_swap cX8_swap 4 (some .int), Cond.methodLink RL 253 yL_setTries, Cond.static yL_setTries, Cond.codeWith yL_setTries cL_setTries 4 (some .int) [(0, 9, 12, 13)], Cond.methodLink RL 84 yX7_setTries, Cond.instanceMethod yX7_setTries, Cond.selects RX7 yX7_setTries yX7_setTries, Cond.code yX7_setTries cX7_setTries 3 (some .int), Cond.methodLink RL 255 yX8_setTries, Cond.instanceMethod yX8_setTries, Cond.selects RX8 yX8_setTries yX8_setTries, Cond.code yX8_setTries cX8_setTries 2 (some .int), Cond.methodLink RL 256 yL_setTray, Cond.static yL_setTray, Cond.codeWith yL_setTray cL_setTray 4 (some .int) [(0, 9, 12, 13)], Cond.methodLink RL 87 yX7_setTray, Cond.instanceMethod yX7_setTray, Cond.selects RX7 yX7_setTray yX7_setTray, Cond.code yX7_setTray cX7_setTray 3 (some .int), Cond.methodLink RL 258 yX8_setTray, Cond.instanceMethod yX8_setTray, Cond.selects RX8 yX8_setTray yX8_setTray]
noncomputable def wsL_law0_r48 : List Cond := [Cond.code yX8_setTray cX8_setTray 2 (some .int), Cond.constantLong RX8 345 (20), Cond.methodLink RL 259 yL_run, Cond.static yL_run, Cond.codeWith yL_run cL_run 4 (some .int) [(0, 9, 12, 13)], Cond.methodLink RL 90 yX7_run, Cond.instanceMethod yX7_run, Cond.selects RX7 yX7_run yX7_run, Cond.code yX7_run cX7_run 3 (some .int), Cond.methodLink RX7 322 yX3_tick, Cond.instanceMethod yX3_tick, Cond.selects RX3 yX3_tick yX3_tick, Cond.code yX3_tick cX3_tick 3 (some .boolean), Cond.fieldLink RX3 115 "CardLine$Line" "moved" "Z", Cond.fieldLink RX3 133 "CardLine$Station" "card" "I", Cond.methodLink RX3 119 yX3_restOrWork, Cond.instanceMethod yX3_restOrWork, Cond.selects RX3 yX3_restOrWork yX3_restOrWork, Cond.code yX3_restOrWork cX3_restOrWork 2 (some .boolean), Cond.fieldLink RX3 152 "CardLine$Station" "restLeft" "I", Cond.fieldLink RX3 155 "CardLine$Station" "need" "I", Cond.fieldLink RX3 158 "CardLine$Station" "stopped" "Z", Cond.fieldLink RX3 161 "CardLine$Station" "worked" "I", Cond.methodLink RX3 164 yX6_useSign]
noncomputable def wsL_law0_r49 : List Cond := [Cond.instanceMethod yX6_useSign, Cond.selects RX6 yX6_useSign yX6_useSign, Cond.code yX6_useSign cX6_useSign 2 (some .boolean), Cond.methodLink RX3 123 yX3_failCardIn, Cond.instanceMethod yX3_failCardIn, Cond.selects RX3 yX3_failCardIn yX3_failCardIn, Cond.code yX3_failCardIn cX3_failCardIn 4 none, Cond.fieldLink RX3 170 "CardLine$Lot" "fails" "I", Cond.fieldLink RX3 173 "CardLine$Lot" "todayFails" "I", Cond.methodLink RX3 167 yX6_letFail, Cond.instanceMethod yX6_letFail, Cond.selects RX6 yX6_letFail yX6_letFail, Cond.code yX6_letFail cX6_letFail 1 none, Cond.methodLink RX3 177 yX3_abandon, Cond.methodLink RX3 126 yX6_hasReadyCard, Cond.instanceMethod yX6_hasReadyCard, Cond.selects RX6 yX6_hasReadyCard yX6_hasReadyCard, Cond.code yX6_hasReadyCard cX6_hasReadyCard 1 (some .boolean), Cond.methodLink RX3 130 yX3_comeOut, Cond.instanceMethod yX3_comeOut, Cond.selects RX3 yX3_comeOut yX3_comeOut, Cond.code yX3_comeOut cX3_comeOut 4 none, Cond.fieldLink RX3 201 "CardLine$Lot" "scraps" "I", Cond.methodLink RX3 184 yX6_letGoOn]
noncomputable def wsL_law0_r50 : List Cond := [Cond.instanceMethod yX6_letGoOn, Cond.selects RX6 yX6_letGoOn yX6_letGoOn, Cond.code yX6_letGoOn cX6_letGoOn 1 none, Cond.methodLink RX3 191 yX4_nextCard, Cond.methodLink RX3 195 yX3_leave, Cond.instanceMethod yX3_leave, Cond.selects RX3 yX3_leave yX3_leave, Cond.code yX3_leave cX3_leave 3 none, Cond.fieldLink RX3 235 "CardLine$Card" "leftTime" "I", Cond.fieldLink RX3 238 "CardLine$Lot" "left" "I", Cond.fieldLink RX3 241 "CardLine$Lot" "todayLeft" "I", Cond.methodLink RX3 136 yX3_goOn, Cond.instanceMethod yX3_goOn, Cond.selects RX3 yX3_goOn yX3_goOn, Cond.code yX3_goOn cX3_goOn 4 none, Cond.methodLink RX3 187 yX3_enter, Cond.instanceMethod yX3_enter, Cond.selects RX3 yX3_enter yX3_enter, Cond.code yX3_enter cX3_enter 6 none, Cond.methodLink RX3 224 yX6_turnsOf, Cond.methodLink RX3 228 yX6_takeIn, Cond.instanceMethod yX6_takeIn, Cond.selects RX6 yX6_takeIn yX6_takeIn, Cond.code yX6_takeIn cX6_takeIn 4 none]
noncomputable def wsL_law0_r51 : List Cond := [Cond.methodLink RX3 140 yX3_feed, Cond.instanceMethod yX3_feed, Cond.selects RX3 yX3_feed yX3_feed, Cond.code yX3_feed cX3_feed 2 none, Cond.methodLink RX3 202 yX3_nextWaiting, Cond.methodLink RX3 143 yX3_emptyTray, Cond.instanceMethod yX3_emptyTray, Cond.selects RX3 yX3_emptyTray yX3_emptyTray, Cond.code yX3_emptyTray cX3_emptyTray 4 none, Cond.methodLink RX3 146 yX3_countReadyCards, Cond.instanceMethod yX3_countReadyCards, Cond.selects RX3 yX3_countReadyCards yX3_countReadyCards, Cond.code yX3_countReadyCards cX3_countReadyCards 2 none, Cond.methodLink RX3 149 yX3_passTime, Cond.instanceMethod yX3_passTime, Cond.selects RX3 yX3_passTime yX3_passTime, Cond.code yX3_passTime cX3_passTime 3 none, Cond.methodLink RX3 214 yX3_daysOver, Cond.methodLink RX3 217 yX4_endDay, Cond.instanceMethod yX4_endDay, Cond.selects RX4 yX4_endDay yX4_endDay, Cond.code yX4_endDay cX4_endDay 2 none, Cond.methodLink RL 261 yX8_run, Cond.instanceMethod yX8_run]
noncomputable def wsL_law0_r52 : List Cond := [Cond.selects RX8 yX8_run yX8_run, Cond.code yX8_run cX8_run 3 (some .int), Cond.constantLong RX8 347 (2000), Cond.methodLink RX8 349 yX8_passes, Cond.instanceMethod yX8_passes, Cond.selects RX8 yX8_passes yX8_passes, Cond.code yX8_passes cX8_passes 2 none, Cond.methodLink RX8 326 yX8_stationPasses, Cond.instanceMethod yX8_stationPasses, Cond.selects RX8 yX8_stationPasses yX8_stationPasses, Cond.code yX8_stationPasses cX8_stationPasses 2 none, Cond.methodLink RX8 302 yX8_grows, Cond.instanceMethod yX8_grows, Cond.selects RX8 yX8_grows yX8_grows, Cond.code yX8_grows cX8_grows 4 none, Cond.methodLink RX8 317 yX8_works, Cond.instanceMethod yX8_works, Cond.selects RX8 yX8_works yX8_works, Cond.code yX8_works cX8_works 2 none, Cond.methodLink RX8 305 yX8_isBad, Cond.instanceMethod yX8_isBad, Cond.selects RX8 yX8_isBad yX8_isBad, Cond.code yX8_isBad cX8_isBad 3 (some .boolean), Cond.methodLink RX8 308 yX8_failsIn]
noncomputable def wsL_law0_r53 : List Cond := [Cond.instanceMethod yX8_failsIn, Cond.selects RX8 yX8_failsIn yX8_failsIn, Cond.code yX8_failsIn cX8_failsIn 3 none, Cond.methodLink RX8 320 yX8_isReady, Cond.instanceMethod yX8_isReady, Cond.selects RX8 yX8_isReady yX8_isReady, Cond.code yX8_isReady cX8_isReady 2 (some .boolean), Cond.methodLink RX8 323 yX8_goesOn, Cond.instanceMethod yX8_goesOn, Cond.selects RX8 yX8_goesOn yX8_goesOn, Cond.code yX8_goesOn cX8_goesOn 4 none, Cond.methodLink RX8 311 yX8_enters, Cond.instanceMethod yX8_enters, Cond.selects RX8 yX8_enters yX8_enters, Cond.code yX8_enters cX8_enters 4 none, Cond.methodLink RX8 314 yX8_leaves, Cond.instanceMethod yX8_leaves, Cond.selects RX8 yX8_leaves yX8_leaves, Cond.code yX8_leaves cX8_leaves 2 none, Cond.methodLink RX8 329 yX8_feeds, Cond.instanceMethod yX8_feeds, Cond.selects RX8 yX8_feeds yX8_feeds, Cond.code yX8_feeds cX8_feeds 3 none, Cond.methodLink RX8 332 yX8_clearsTray]
noncomputable def wsL_law0_r54 : List Cond := [Cond.instanceMethod yX8_clearsTray, Cond.selects RX8 yX8_clearsTray yX8_clearsTray, Cond.code yX8_clearsTray cX8_clearsTray 3 none, Cond.methodLink RX8 335 yX8_dayEnds, Cond.instanceMethod yX8_dayEnds, Cond.selects RX8 yX8_dayEnds yX8_dayEnds, Cond.code yX8_dayEnds cX8_dayEnds 3 none, Cond.methodLink RL 262 yL_runToLeave, Cond.static yL_runToLeave, Cond.codeWith yL_runToLeave cL_runToLeave 4 (some .int) [(0, 9, 12, 13)], Cond.methodLink RL 93 yX7_runToLeave, Cond.instanceMethod yX7_runToLeave, Cond.selects RX7 yX7_runToLeave yX7_runToLeave, Cond.code yX7_runToLeave cX7_runToLeave 4 (some .int), Cond.methodLink RL 264 yX8_runToLeave, Cond.instanceMethod yX8_runToLeave, Cond.selects RX8 yX8_runToLeave yX8_runToLeave, Cond.code yX8_runToLeave cX8_runToLeave 4 (some .int), Cond.methodLink RL 265 yL_leavesIn, Cond.static yL_leavesIn, Cond.codeWith yL_leavesIn cL_leavesIn 4 (some .int) [(0, 9, 12, 22)], Cond.methodLink RL 96 yX7_leavesIn, Cond.instanceMethod yX7_leavesIn, Cond.selects RX7 yX7_leavesIn yX7_leavesIn]
noncomputable def wsL_law0_r55 : List Cond := [Cond.code yX7_leavesIn cX7_leavesIn 2 (some .int), Cond.fieldLink RX7 334 "CardLine$Event" "CARD_LEFT" "LCardLine$Event;", Cond.methodLink RX7 330 yX7_copyOfLine, Cond.instanceMethod yX7_copyOfLine, Cond.selects RX7 yX7_copyOfLine yX7_copyOfLine, Cond.code yX7_copyOfLine cX7_copyOfLine 1 (some (.object "CardLine$Line")), Cond.methodLink RX7 340 yX7_ticksUntil, Cond.static yX7_ticksUntil, Cond.code yX7_ticksUntil cX7_ticksUntil 5 (some .int), Cond.methodLink RX7 326 yX3_hasHappened, Cond.instanceMethod yX3_hasHappened, Cond.selects RX3 yX3_hasHappened yX3_hasHappened, Cond.code yX3_hasHappened cX3_hasHappened 3 (some .boolean), Cond.fieldLink RX3 259 "CardLine$1" "$SwitchMap$CardLine$Event" "[I", Cond.fieldLink RX3 270 "CardLine$Station" "fails" "I", Cond.methodLink RX3 264 ⟨"CardLine$Event", "ordinal", "()I"⟩, Cond.sameMethod "CardLine$Event" "java/lang/Enum" "ordinal" "()I", Cond.selects RX2 ⟨"CardLine$Event", "ordinal", "()I"⟩ yJx29ce0_ordinal_8abf5, Cond.instanceMethod yJx29ce0_ordinal_8abf5, Cond.initialized RJx29ce0, Cond.code yJx29ce0_ordinal_8abf5 cJx29ce0_ordinal_8abf5 1 (some .int), Cond.fieldLink RJx29ce0 7 "java/lang/Enum" "ordinal" "I", Cond.methodLink RX3 269 yX4_isFinished, Cond.instanceMethod yX4_isFinished]
noncomputable def wsL_law0_r56 : List Cond := [Cond.selects RX4 yX4_isFinished yX4_isFinished, Cond.code yX4_isFinished cX4_isFinished 1 (some .boolean), Cond.methodLink RL 267 yX8_leavesIn, Cond.instanceMethod yX8_leavesIn, Cond.selects RX8 yX8_leavesIn yX8_leavesIn, Cond.code yX8_leavesIn cX8_leavesIn 2 (some .int), Cond.methodLink RX8 362 yX8_behind, Cond.instanceMethod yX8_behind, Cond.selects RX8 yX8_behind yX8_behind, Cond.code yX8_behind cX8_behind 4 (some .int), Cond.methodLink RX8 359 yX8_goes, Cond.instanceMethod yX8_goes, Cond.selects RX8 yX8_goes yX8_goes, Cond.code yX8_goes cX8_goes 5 (some .int), Cond.methodLink RX8 355 yX8_isMet, Cond.instanceMethod yX8_isMet, Cond.selects RX8 yX8_isMet yX8_isMet, Cond.code yX8_isMet cX8_isMet 4 (some .boolean), Cond.methodLink RX8 352 yX8_areFinished, Cond.instanceMethod yX8_areFinished, Cond.selects RX8 yX8_areFinished yX8_areFinished, Cond.code yX8_areFinished cX8_areFinished 3 (some .boolean), Cond.methodLink RL 268 yL_lotIn, Cond.static yL_lotIn]
noncomputable def wsL_law0_r57 : List Cond := [Cond.codeWith yL_lotIn cL_lotIn 4 (some .int) [(0, 9, 12, 22)], Cond.methodLink RL 99 yX7_lotIn, Cond.instanceMethod yX7_lotIn, Cond.selects RX7 yX7_lotIn yX7_lotIn, Cond.code yX7_lotIn cX7_lotIn 2 (some .int), Cond.fieldLink RX7 344 "CardLine$Event" "LOT_FINISHED" "LCardLine$Event;", Cond.methodLink RL 270 yX8_lotIn, Cond.instanceMethod yX8_lotIn, Cond.selects RX8 yX8_lotIn yX8_lotIn, Cond.code yX8_lotIn cX8_lotIn 2 (some .int), Cond.methodLink RL 271 yX7_allIn, Cond.instanceMethod yX7_allIn, Cond.selects RX7 yX7_allIn yX7_allIn, Cond.code yX7_allIn cX7_allIn 1 (some .int), Cond.fieldLink RX7 347 "CardLine$Event" "ALL_FINISHED" "LCardLine$Event;", Cond.methodLink RL 274 yX8_allIn, Cond.instanceMethod yX8_allIn, Cond.selects RX8 yX8_allIn yX8_allIn, Cond.code yX8_allIn cX8_allIn 1 (some .int), Cond.methodLink RL 275 yL_leftIn, Cond.static yL_leftIn, Cond.codeWith yL_leftIn cL_leftIn 4 (some .int) [(0, 9, 12, 13)], Cond.methodLink RL 102 yX7_leftIn, Cond.instanceMethod yX7_leftIn]
noncomputable def wsL_law0_r58 : List Cond := [Cond.selects RX7 yX7_leftIn yX7_leftIn, Cond.code yX7_leftIn cX7_leftIn 2 (some .int), Cond.methodLink RX7 350 yX7_copyBehind, Cond.instanceMethod yX7_copyBehind, Cond.selects RX7 yX7_copyBehind yX7_copyBehind, Cond.code yX7_copyBehind cX7_copyBehind 5 (some (.object "CardLine$Line")), Cond.methodLink RL 277 yX8_leftIn, Cond.instanceMethod yX8_leftIn, Cond.selects RX8 yX8_leftIn yX8_leftIn, Cond.code yX8_leftIn cX8_leftIn 2 (some .int), Cond.methodLink RX8 365 yX8_then, Cond.instanceMethod yX8_then, Cond.selects RX8 yX8_then yX8_then, Cond.code yX8_then cX8_then 4 (some .int), Cond.methodLink RL 278 yL_failIn, Cond.static yL_failIn, Cond.codeWith yL_failIn cL_failIn 4 (some .int) [(0, 9, 12, 22)], Cond.methodLink RL 105 yX7_failIn, Cond.instanceMethod yX7_failIn, Cond.selects RX7 yX7_failIn yX7_failIn, Cond.code yX7_failIn cX7_failIn 3 (some .int), Cond.fieldLink RX7 354 "CardLine$Event" "STATION_FAILED" "LCardLine$Event;", Cond.methodLink RL 280 yX8_failIn, Cond.instanceMethod yX8_failIn]
noncomputable def wsL_law0_r59 : List Cond := [Cond.selects RX8 yX8_failIn yX8_failIn, Cond.code yX8_failIn cX8_failIn 2 (some .int), Cond.methodLink RL 281 yL_blanksIn, Cond.static yL_blanksIn, Cond.codeWith yL_blanksIn cL_blanksIn 4 (some .int) [(0, 9, 12, 13)], Cond.methodLink RL 108 yX7_blanksIn, Cond.instanceMethod yX7_blanksIn, Cond.selects RX7 yX7_blanksIn yX7_blanksIn, Cond.code yX7_blanksIn cX7_blanksIn 2 (some .int), Cond.methodLink RL 283 yX8_blanksIn, Cond.instanceMethod yX8_blanksIn, Cond.selects RX8 yX8_blanksIn yX8_blanksIn, Cond.code yX8_blanksIn cX8_blanksIn 2 (some .int), Cond.methodLink RL 284 yL_restIn, Cond.static yL_restIn, Cond.codeWith yL_restIn cL_restIn 4 (some .int) [(0, 9, 12, 22)], Cond.methodLink RL 111 yX7_restIn, Cond.instanceMethod yX7_restIn, Cond.selects RX7 yX7_restIn yX7_restIn, Cond.code yX7_restIn cX7_restIn 2 (some .int), Cond.fieldLink RX7 357 "CardLine$Event" "STATION_RESTS" "LCardLine$Event;", Cond.methodLink RL 286 yX8_restIn, Cond.instanceMethod yX8_restIn, Cond.selects RX8 yX8_restIn yX8_restIn]
noncomputable def wsL_law0_r60 : List Cond := [Cond.code yX8_restIn cX8_restIn 2 (some .int), Cond.methodLink RL 287 yX7_lotBy, Cond.instanceMethod yX7_lotBy, Cond.selects RX7 yX7_lotBy yX7_lotBy, Cond.code yX7_lotBy cX7_lotBy 4 (some .int), Cond.methodLink RX7 360 yX7_lotsFinishedBefore, Cond.instanceMethod yX7_lotsFinishedBefore, Cond.selects RX7 yX7_lotsFinishedBefore yX7_lotsFinishedBefore, Cond.code yX7_lotsFinishedBefore cX7_lotsFinishedBefore 5 (some .int), Cond.methodLink RL 290 yX8_lotBy, Cond.instanceMethod yX8_lotBy, Cond.selects RX8 yX8_lotBy yX8_lotBy, Cond.code yX8_lotBy cX8_lotBy 5 (some .int), Cond.methodLink RL 291 yL_bestRank, Cond.static yL_bestRank, Cond.codeWith yL_bestRank cL_bestRank 4 (some .int) [(0, 9, 12, 22)], Cond.methodLink RL 114 yX7_bestRank, Cond.instanceMethod yX7_bestRank, Cond.selects RX7 yX7_bestRank yX7_bestRank, Cond.code yX7_bestRank cX7_bestRank 7 (some .int), Cond.methodLink RL 293 yX8_bestRank, Cond.instanceMethod yX8_bestRank, Cond.selects RX8 yX8_bestRank yX8_bestRank, Cond.code yX8_bestRank cX8_bestRank 2 (some .int)]
noncomputable def wsL_law0_r61 : List Cond := [Cond.methodLink RX8 368 yX8_bestOf, Cond.instanceMethod yX8_bestOf, Cond.selects RX8 yX8_bestOf yX8_bestOf, Cond.code yX8_bestOf cX8_bestOf 10 (some .int), Cond.methodLink RL 294 yX7_bestTray, Cond.instanceMethod yX7_bestTray, Cond.selects RX7 yX7_bestTray yX7_bestTray, Cond.code yX7_bestTray cX7_bestTray 6 (some .int), Cond.methodLink RL 297 yX8_bestTray, Cond.instanceMethod yX8_bestTray, Cond.selects RX8 yX8_bestTray yX8_bestTray, Cond.code yX8_bestTray cX8_bestTray 1 (some .int), Cond.methodLink RL 298 yL_writeCard, Cond.static yL_writeCard, Cond.codeWith yL_writeCard cL_writeCard 4 (some .int) [(0, 9, 12, 22)], Cond.methodLink RL 117 yX7_writeCard, Cond.instanceMethod yX7_writeCard, Cond.selects RX7 yX7_writeCard yX7_writeCard, Cond.code yX7_writeCard cX7_writeCard 4 (some .int), Cond.methodLink RX7 363 Lib.Math.min.name, Cond.methodLink RL 300 yX8_writeCard, Cond.instanceMethod yX8_writeCard, Cond.selects RX8 yX8_writeCard yX8_writeCard, Cond.code yX8_writeCard cX8_writeCard 3 (some .int)]
noncomputable def wsL_law0_r62 : List Cond := [Cond.fieldLink RX8 372 "CardLineModel" "written" "I", Cond.methodLink RL 301 yX7_outputByte, Cond.instanceMethod yX7_outputByte, Cond.selects RX7 yX7_outputByte yX7_outputByte, Cond.code yX7_outputByte cX7_outputByte 2 (some .int), Cond.methodLink RL 304 yX8_outputByte, Cond.instanceMethod yX8_outputByte, Cond.selects RX8 yX8_outputByte yX8_outputByte, Cond.code yX8_outputByte cX8_outputByte 2 (some .int), Cond.methodLink RL 305 yX7_undo, Cond.instanceMethod yX7_undo, Cond.selects RX7 yX7_undo yX7_undo, Cond.code yX7_undo cX7_undo 2 (some .int), Cond.methodLink RL 308 yX8_undo, Cond.instanceMethod yX8_undo, Cond.selects RX8 yX8_undo yX8_undo, Cond.code yX8_undo cX8_undo 1 (some .int), Cond.methodLink RL 309 yL_saveSnapshot, Cond.static yL_saveSnapshot, Cond.codeWith yL_saveSnapshot cL_saveSnapshot 4 (some .int) [(0, 9, 12, 13)], Cond.methodLink RL 120 yX7_saveSnapshot, Cond.instanceMethod yX7_saveSnapshot, Cond.selects RX7 yX7_saveSnapshot yX7_saveSnapshot, Cond.code yX7_saveSnapshot cX7_saveSnapshot 2 (some .int)]
noncomputable def wsL_law0_r63 : List Cond := [Cond.methodLink RL 311 yX8_saveSnapshot, Cond.instanceMethod yX8_saveSnapshot, Cond.selects RX8 yX8_saveSnapshot yX8_saveSnapshot, Cond.code yX8_saveSnapshot cX8_saveSnapshot 2 (some .int), Cond.methodLink RL 312 yL_restoreSnapshot, Cond.static yL_restoreSnapshot, Cond.codeWith yL_restoreSnapshot cL_restoreSnapshot 4 (some .int) [(0, 9, 12, 13)], Cond.methodLink RL 123 yX7_restoreSnapshot, Cond.instanceMethod yX7_restoreSnapshot, Cond.selects RX7 yX7_restoreSnapshot yX7_restoreSnapshot, Cond.code yX7_restoreSnapshot cX7_restoreSnapshot 2 (some .int), Cond.methodLink RL 314 yX8_restoreSnapshot, Cond.instanceMethod yX8_restoreSnapshot, Cond.selects RX8 yX8_restoreSnapshot yX8_restoreSnapshot, Cond.code yX8_restoreSnapshot cX8_restoreSnapshot 2 (some .int)]
noncomputable def wsL_law0 : List Cond := (wsL_law0_r1 ++ (wsL_law0_r2 ++ (wsL_law0_r3 ++ (wsL_law0_r4 ++ (wsL_law0_r5 ++ (wsL_law0_r6 ++ (wsL_law0_r7 ++ (wsL_law0_r8 ++ (wsL_law0_r9 ++ (wsL_law0_r10 ++ (wsL_law0_r11 ++ (wsL_law0_r12 ++ (wsL_law0_r13 ++ (wsL_law0_r14 ++ (wsL_law0_r15 ++ (wsL_law0_r16 ++ (wsL_law0_r17 ++ (wsL_law0_r18 ++ (wsL_law0_r19 ++ (wsL_law0_r20 ++ (wsL_law0_r21 ++ (wsL_law0_r22 ++ (wsL_law0_r23 ++ (wsL_law0_r24 ++ (wsL_law0_r25 ++ (wsL_law0_r26 ++ (wsL_law0_r27 ++ (wsL_law0_r28 ++ (wsL_law0_r29 ++ (wsL_law0_r30 ++ (wsL_law0_r31 ++ (wsL_law0_r32 ++ (wsL_law0_r33 ++ (wsL_law0_r34 ++ (wsL_law0_r35 ++ (wsL_law0_r36 ++ (wsL_law0_r37 ++ (wsL_law0_r38 ++ (wsL_law0_r39 ++ (wsL_law0_r40 ++ (wsL_law0_r41 ++ (wsL_law0_r42 ++ (wsL_law0_r43 ++ (wsL_law0_r44 ++ (wsL_law0_r45 ++ (wsL_law0_r46 ++ (wsL_law0_r47 ++ (wsL_law0_r48 ++ (wsL_law0_r49 ++ (wsL_law0_r50 ++ (wsL_law0_r51 ++ (wsL_law0_r52 ++ (wsL_law0_r53 ++ (wsL_law0_r54 ++ (wsL_law0_r55 ++ (wsL_law0_r56 ++ (wsL_law0_r57 ++ (wsL_law0_r58 ++ (wsL_law0_r59 ++ (wsL_law0_r60 ++ (wsL_law0_r61 ++ (wsL_law0_r62 ++ wsL_law0_r63)))))))))))))))))))))))))))))))))))))))))))))))))))))))))))))) ++ wsX70 ++ wsX80 ++ wsX30 ++ wsX50 ++ wsX60 ++ wsX40 ++ wsX10 ++ wsJ00 ++ wsJ40 ++ ([] : List Cond)
noncomputable def wsL_law : List Cond := wsL_law0 ++ (vx_atS RX7 109 "java/lang/IllegalArgumentException" ["java/lang/RuntimeException", "java/lang/Exception"]).filter goodWord ++ (vx_atS RX7 92 "java/lang/IndexOutOfBoundsException" ["java/lang/RuntimeException", "java/lang/Exception"]).filter goodWord
set_option maxRecDepth 20000 in
theorem inlX1 : ∀ w ∈ wsX10, w ∈ wsL_law := fun _ h => List.mem_append_left _ (List.mem_append_left _ (List.mem_append_left _ (List.mem_append_left _ (List.mem_append_left _ (List.mem_append_right _ h)))))
theorem inlX3 : ∀ w ∈ wsX30, w ∈ wsL_law := fun _ h => List.mem_append_left _ (List.mem_append_left _ (List.mem_append_left _ (List.mem_append_left _ (List.mem_append_left _ (List.mem_append_left _ (List.mem_append_left _ (List.mem_append_left _ (List.mem_append_left _ (List.mem_append_right _ h)))))))))
theorem inlX4 : ∀ w ∈ wsX40, w ∈ wsL_law := fun _ h => List.mem_append_left _ (List.mem_append_left _ (List.mem_append_left _ (List.mem_append_left _ (List.mem_append_left _ (List.mem_append_left _ (List.mem_append_right _ h))))))
theorem inlX5 : ∀ w ∈ wsX50, w ∈ wsL_law := fun _ h => List.mem_append_left _ (List.mem_append_left _ (List.mem_append_left _ (List.mem_append_left _ (List.mem_append_left _ (List.mem_append_left _ (List.mem_append_left _ (List.mem_append_left _ (List.mem_append_right _ h))))))))
theorem inlX6 : ∀ w ∈ wsX60, w ∈ wsL_law := fun _ h => List.mem_append_left _ (List.mem_append_left _ (List.mem_append_left _ (List.mem_append_left _ (List.mem_append_left _ (List.mem_append_left _ (List.mem_append_left _ (List.mem_append_right _ h)))))))
theorem inlX7 : ∀ w ∈ wsX70, w ∈ wsL_law := fun _ h => List.mem_append_left _ (List.mem_append_left _ (List.mem_append_left _ (List.mem_append_left _ (List.mem_append_left _ (List.mem_append_left _ (List.mem_append_left _ (List.mem_append_left _ (List.mem_append_left _ (List.mem_append_left _ (List.mem_append_left _ (List.mem_append_right _ h)))))))))))
theorem inlX8 : ∀ w ∈ wsX80, w ∈ wsL_law := fun _ h => List.mem_append_left _ (List.mem_append_left _ (List.mem_append_left _ (List.mem_append_left _ (List.mem_append_left _ (List.mem_append_left _ (List.mem_append_left _ (List.mem_append_left _ (List.mem_append_left _ (List.mem_append_left _ (List.mem_append_right _ h))))))))))
